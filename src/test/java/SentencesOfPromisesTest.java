/** The sentences of the promises 1 to 18 that name a bound; what a refusal leaves is in RefusedCallsTest. */
public final class SentencesOfPromisesTest {
    private static final String[] NUMBERS = {
        "turn", "time", "members", "agreed", "failed", "slotsToListen", "tries", "ack", "suspect", "skew", "rate",
    };
    private static final Checks CHECKS = new Checks();

    public static void main(String[] args) {
        promise1();
        promise2IntNodesIsN();
        promise3();
        promise4();
        promise5();
        promise6();
        promise7();
        promise8SkewOfANodeGrowsByTicks();
        promise9();
        promise10HowManySlotsWentBy();
        promise11();
        promise12TheModeOfANodeMinus1WhenThereIsNone();
        promise13MembersOfANodeThatIsInside();
        promise14TimeTimes8AndTurnOfANodeThatIsInside();
        promise15AgreedTimes1024FailedTimes4AndAckOfANodeThatIsInside();
        promise16WaitTimes4AndTriesOfANodeThatIsListen();
        promise17SkewOfNodeALessThatOfNodeB();
        promise18();
        CHECKS.end();
    }

    private static void due(String call, long got, long want) {
        CHECKS.due(call, got, want);
    }

    private static void due(String call, boolean got, boolean want) {
        CHECKS.due(call, got, want);
    }

    private static int[] noNodes(SlotCluster x) {
        int n = x.nodes();
        return new int[] {-1, n, n + 1, 31, 32, Integer.MIN_VALUE, Integer.MAX_VALUE};
    }

    private static void promise1() {
        nIs4WhenNIsBelow4And6WhenItIsAbove6();
        allNodesAreOffNeitherMutedNorDeaf();
        allTheirNumbersAre0NoDeviations();
    }

    private static void nIs4WhenNIsBelow4And6WhenItIsAbove6() {
        CHECKS.sentence("N is n, but 4 when n is below 4, and 6 when it is above 6");
        int[][] rows = {
            {Integer.MIN_VALUE, 4}, {-1, 4}, {0, 4}, {3, 4}, {4, 4}, {5, 5}, {6, 6}, {7, 6}, {Integer.MAX_VALUE, 6},
        };
        for (int[] row : rows) {
            SlotCluster x = new SlotCluster(row[0]);
            due("nodes() of " + row[0], x.nodes(), row[1]);
            due("the last node of " + row[0], x.mode(row[1] - 1), 0);
            due("no node after it of " + row[0], x.mode(row[1]), -1);
            x.on(0, 0);
            due("WAIT 2 * N of " + row[0] + ": patience(0)", x.patience(0), 2 * row[1] * 4 + 3);
        }
    }

    private static void allNodesAreOffNeitherMutedNorDeaf() {
        CHECKS.sentence("All nodes are OFF, neither muted nor deaf");
        for (int n = 4; n <= 6; n++) {
            SlotCluster x = new SlotCluster(n);
            for (int node = 0; node < n; node++) {
                due("mode(" + node + ")", x.mode(node), 0);
                x.on(node, 0);
                due("mute(" + node + ")", x.mute(node), true);
                due("deafen(" + node + ")", x.deafen(node), true);
            }
        }
    }

    /** No call shows the numbers of an OFF node, and on sets them: so they are looked at inside. */
    private static void allTheirNumbersAre0NoDeviations() {
        CHECKS.sentence("all their numbers are 0, no deviations");
        for (int n = 4; n <= 6; n++) {
            SlotCluster x = new SlotCluster(n);
            for (int node = 0; node < n; node++) {
                for (String number : NUMBERS) {
                    due(number + " of node " + node, Inner.get(x, node, number), 0);
                }
                due("HEARD of node " + node, Inner.is(x, node, "heardStart"), false);
                due("deviations of node " + node, Inner.deviations(x, node), 0);
            }
        }
    }

    private static void promise2IntNodesIsN() {
        CHECKS.sentence("int nodes(): N.");
        for (int n = 4; n <= 6; n++) {
            SlotCluster x = Scenes.united(n);
            due("nodes()", x.nodes(), n);
            x.off(0);
            due("nodes() with one OFF", x.nodes(), n);
        }
    }

    private static void promise3() {
        itBeginsListeningWithTries3();
        itsNumbersAre0();
        rateMinus2To2IsTaken();
    }

    private static void itBeginsListeningWithTries3() {
        CHECKS.sentence("it begins listening, with TRIES 3");
        SlotCluster x = Scenes.loneFrozen(0);
        x.off(0);
        due("on(0, 0)", x.on(0, 0), true);
        due("it had none left: patience(0)", x.patience(0), 8 * 4 + 3);
        SlotCluster tried = Scenes.on(4, 0);
        tried.run(12);
        due("it has tried once: patience(0)", tried.patience(0), 8 * 4 + 2);
        tried.off(0);
        tried.on(0, 0);
        due("on again: patience(0)", tried.patience(0), 8 * 4 + 3);
    }

    private static void itsNumbersAre0() {
        CHECKS.sentence("SKEW, AGREED, FAILED, TURN, TIME, MEMBERS and ACK 0");
        SlotCluster x = Scenes.frozenAfterDeafness();
        x.shift(3, 500);
        x.off(3);
        due("on(3, 0)", x.on(3, 0), true);
        due("gap(3, 0)", x.gap(3, 0), 0);
        for (String number : new String[] {"skew", "agreed", "failed", "turn", "time", "members", "ack"}) {
            due(number + " of node 3", Inner.get(x, 3, number), 0);
        }
    }

    private static void rateMinus2To2IsTaken() {
        CHECKS.sentence("false, refused, when .. rate is not -2 .. 2");
        for (int rate : new int[] {Integer.MIN_VALUE, -3, -2, -1, 0, 1, 2, 3, Integer.MAX_VALUE}) {
            boolean taken = rate >= -2 && rate <= 2;
            SlotCluster x = Scenes.on(4, 1);
            due("on(0, " + rate + ")", x.on(0, rate), taken);
            due("rate " + rate + ": mode(0)", x.mode(0), taken ? 1 : 0);
            x.run(3);
            due("rate " + rate + ": gap(0, 1)", x.gap(0, 1), taken ? 3 * rate : 0);
        }
    }

    private static void promise4() {
        aNodeIsOffFromEveryMode();
        andNeitherMutedNorDeaf();
    }

    private static void aNodeIsOffFromEveryMode() {
        CHECKS.sentence("A node is OFF .. : true; false when there is none or it is OFF");
        int[] modes = {5, 0, 4, 2, 1, 3};
        for (int node = 0; node < 6; node++) {
            SlotCluster x = Scenes.everyMode();
            due("mode(" + node + ")", x.mode(node), modes[node]);
            due("off(" + node + ")", x.off(node), modes[node] != 0);
            due("mode(" + node + ") after", x.mode(node), 0);
            due("off(" + node + ") again", x.off(node), false);
        }
        SlotCluster x = Scenes.everyMode();
        for (int node : noNodes(x)) {
            due("off(" + node + ")", x.off(node), false);
        }
    }

    private static void andNeitherMutedNorDeaf() {
        CHECKS.sentence("(and neither muted nor deaf)");
        for (int node : new int[] {0, 2, 3, 4, 5}) {
            SlotCluster x = Scenes.everyMode();
            x.mute(node);
            x.deafen(node);
            x.off(node);
            x.on(node, 0);
            due("mute(" + node + ")", x.mute(node), true);
            due("deafen(" + node + ")", x.deafen(node), true);
        }
        SlotCluster x = Scenes.on(4, 0);
        x.mute(0);
        x.off(0);
        x.on(0, 0);
        due("its START is not lost: run(8)", x.run(8), 1);
    }

    private static void promise5() {
        aFrozenNodeBeginsListeningWithTries3();
        itsOtherNumbersStay();
    }

    private static void aFrozenNodeBeginsListeningWithTries3() {
        CHECKS.sentence("A FROZEN node begins listening, with TRIES 3 .. : true; false when there is none or it is not"
            + " FROZEN");
        for (int node = 0; node < 6; node++) {
            SlotCluster x = Scenes.everyMode();
            due("thaw(" + node + ") in mode " + x.mode(node), x.thaw(node), node == 0);
        }
        SlotCluster x = Scenes.everyMode();
        for (int node : noNodes(x)) {
            due("thaw(" + node + ")", x.thaw(node), false);
        }
        x.thaw(0);
        due("mode(0)", x.mode(0), 1);
        due("patience(0)", x.patience(0), 12 * 4 + 3);
        due("thaw(0) again", x.thaw(0), false);
        SlotCluster spent = Scenes.loneFrozen(0);
        spent.thaw(0);
        due("it had no tries left: patience(0)", spent.patience(0), 8 * 4 + 3);
    }

    private static void itsOtherNumbersStay() {
        CHECKS.sentence("(its other numbers stay)");
        SlotCluster x = Scenes.loneFrozen(2);
        x.on(1, 0);
        x.mute(0);
        x.deafen(0);
        x.thaw(0);
        due("SKEW: gap(0, 1)", x.gap(0, 1), 88);
        x.run(1);
        due("RATE: gap(0, 1)", x.gap(0, 1), 90);
        due("still muted: mute(0)", x.mute(0), false);
        due("still deaf: deafen(0)", x.deafen(0), false);
        SlotCluster frozen = Scenes.frozenAfterDeafness();
        int[] before = new int[NUMBERS.length];
        for (int i = 0; i < NUMBERS.length; i++) {
            before[i] = Inner.get(frozen, 3, NUMBERS[i]);
        }
        frozen.thaw(3);
        for (int i = 0; i < NUMBERS.length; i++) {
            if (!NUMBERS[i].equals("slotsToListen") && !NUMBERS[i].equals("tries")) {
                due(NUMBERS[i] + " of node 3", Inner.get(frozen, 3, NUMBERS[i]), before[i]);
            }
        }
    }

    private static void promise6() {
        theNextFrameThatItSendsAloneIsLost();
        aFrozenNodeStaysMuted();
        muteFalseWhenThereIsNoneOrItIsOffOrMuted();
    }

    private static void theNextFrameThatItSendsAloneIsLost() {
        CHECKS.sentence("A node is MUTED: the next frame that it sends alone is lost.");
        SlotCluster x = Scenes.united(4);
        x.mute(2);
        due("its frame: run(1)", x.run(1), 0);
        due("the others' frames: run(3)", x.run(3), 3);
        due("the one after: run(1)", x.run(1), 1);
        due("the one after: bus()", x.bus(), 10);
        SlotCluster noise = Scenes.on(4, 1);
        noise.run(1);
        noise.on(0, 0);
        noise.mute(1);
        noise.run(8);
        due("not sent alone: bus()", noise.bus(), -2);
        noise.off(0);
        due("slot 22, sent alone: run(13)", noise.run(13), 0);
        due("slot 22: mode(1)", noise.mode(1), 2);
        due("slot 35, not muted any more: run(13)", noise.run(13), 1);
        due("slot 35: bus()", noise.bus(), 1);
    }

    private static void aFrozenNodeStaysMuted() {
        CHECKS.sentence("the next frame that it sends alone is lost (FROZEN in between)");
        SlotCluster x = Scenes.loneFrozen(0);
        due("mute(0)", x.mute(0), true);
        x.run(10);
        due("mute(0) again", x.mute(0), false);
        x.thaw(0);
        due("the START is lost: run(8)", x.run(8), 0);
        due("the START is lost: mode(0)", x.mode(0), 2);
        due("the next START: run(12)", x.run(12), 1);
        SlotCluster noTries = Scenes.on(4, 0);
        noTries.run(40);
        noTries.mute(0);
        noTries.run(4);
        due("frozen with TRIES 0: mode(0)", noTries.mode(0), 5);
        due("muted before: mute(0)", noTries.mute(0), false);
        SlotCluster failed = Scenes.united(4);
        failed.deafen(3);
        failed.run(5);
        failed.mute(3);
        failed.run(1);
        due("frozen with AGREED 1 and FAILED 3: mode(3)", failed.mode(3), 5);
        due("muted before: mute(3)", failed.mute(3), false);
    }

    private static void muteFalseWhenThereIsNoneOrItIsOffOrMuted() {
        CHECKS.sentence("mute: True; false when there is none, or it is OFF or muted.");
        SlotCluster x = Scenes.everyMode();
        for (int node : noNodes(x)) {
            due("mute(" + node + ")", x.mute(node), false);
        }
        for (int node = 0; node < 6; node++) {
            due("mute(" + node + ") in mode " + x.mode(node), x.mute(node), node != 1);
            due("mute(" + node + ") again", x.mute(node), false);
        }
    }

    private static void promise7() {
        theNextFrameOrNoiseThatItWouldHearIsNoise();
        aFrozenNodeStaysDeaf();
        deafenFalseWhenThereIsNoneOrItIsOffOrDeaf();
    }

    private static void theNextFrameOrNoiseThatItWouldHearIsNoise() {
        CHECKS.sentence("A node is DEAF: the next frame or noise that it would hear is noise.");
        SlotCluster x = Scenes.on(4, 0, 1, 2);
        x.run(21);
        x.on(3, 0);
        x.deafen(3);
        due("a FULL: run(1)", x.run(1), 1);
        due("a FULL heard as noise: mode(3)", x.mode(3), 1);
        due("its turn, nothing: run(1)", x.run(1), 0);
        due("the next FULL: run(1)", x.run(1), 1);
        due("the next FULL: mode(3)", x.mode(3), 4);
        SlotCluster noise = Scenes.on(4, 1, 2);
        noise.deafen(2);
        noise.run(1);
        noise.on(0, 0);
        noise.run(8);
        due("noise: bus()", noise.bus(), -2);
        due("used up by noise: deafen(2)", noise.deafen(2), true);
    }

    private static void aFrozenNodeStaysDeaf() {
        CHECKS.sentence("the next frame or noise that it would hear is noise (FROZEN in between)");
        SlotCluster x = Scenes.frozenAfterDeafness();
        due("deafen(3)", x.deafen(3), true);
        x.run(8);
        due("deafen(3) again", x.deafen(3), false);
        x.thaw(3);
        due("slot 36, noise: run(1)", x.run(1), 1);
        due("slot 36, noise: mode(3)", x.mode(3), 1);
        x.run(1);
        due("slot 37: mode(3)", x.mode(3), 4);
        SlotCluster noTries = Scenes.on(4, 0);
        noTries.run(40);
        noTries.deafen(0);
        noTries.run(4);
        due("frozen with TRIES 0: mode(0)", noTries.mode(0), 5);
        due("deaf before: deafen(0)", noTries.deafen(0), false);
        SlotCluster failed = Scenes.united(4);
        failed.deafen(3);
        failed.run(5);
        failed.deafen(3);
        failed.run(1);
        due("frozen with AGREED 1 and FAILED 3: mode(3)", failed.mode(3), 5);
        due("deaf before: deafen(3)", failed.deafen(3), false);
    }

    private static void deafenFalseWhenThereIsNoneOrItIsOffOrDeaf() {
        CHECKS.sentence("deafen: True; false when there is none, or it is OFF or deaf.");
        SlotCluster x = Scenes.everyMode();
        for (int node : noNodes(x)) {
            due("deafen(" + node + ")", x.deafen(node), false);
        }
        for (int node = 0; node < 6; node++) {
            due("deafen(" + node + ") in mode " + x.mode(node), x.deafen(node), node != 1);
            due("deafen(" + node + ") again", x.deafen(node), false);
        }
    }

    private static void promise8SkewOfANodeGrowsByTicks() {
        CHECKS.sentence("SKEW of a node grows by ticks: true; false when there is none, it is OFF, or ticks is not"
            + " -1000 .. 1000");
        int[] taken = {-1000, -999, -1, 0, 1, 999, 1000};
        int[] refused = {Integer.MIN_VALUE, -1001, 1001, Integer.MAX_VALUE};
        for (int node = 0; node < 6; node++) {
            for (int ticks : taken) {
                SlotCluster x = Scenes.everyMode();
                int other = node == 0 ? 2 : 0;
                due("shift(" + node + ", " + ticks + ")", x.shift(node, ticks), node != 1);
                due("gap(" + node + ", " + other + ")", x.gap(node, other), node == 1 ? 0 : ticks);
            }
            for (int ticks : refused) {
                due("shift(" + node + ", " + ticks + ")", Scenes.everyMode().shift(node, ticks), false);
            }
        }
        SlotCluster x = Scenes.everyMode();
        for (int node : noNodes(x)) {
            due("shift(" + node + ", 0)", x.shift(node, 0), false);
        }
        x.shift(0, 1000);
        x.shift(0, 1000);
        due("twice 1000: gap(0, 2)", x.gap(0, 2), 2000);
    }

    private static void promise9() {
        nSlotsGoByNIs0To40();
        noiseIsNone();
    }

    private static void nSlotsGoByNIs0To40() {
        CHECKS.sentence("n slots go by (n is 0 .. 40) .. -1, refused, when n is not 0 .. 40");
        for (int n = 0; n <= 40; n++) {
            SlotCluster x = Scenes.united(4);
            due("run(" + n + ")", x.run(n), n);
            due("run(" + n + "): slots()", x.slots(), 21 + n);
            due("run(" + n + "): time(0)", x.time(0), (4 + n) * 8 + (1 + n) % 4);
        }
        SlotCluster x = Scenes.united(4);
        for (int n : new int[] {Integer.MIN_VALUE, -40, -1, 41, 42, Integer.MAX_VALUE}) {
            due("run(" + n + ")", x.run(n), -1);
            due("run(" + n + "): slots()", x.slots(), 21);
        }
    }

    private static void noiseIsNone() {
        CHECKS.sentence("Answers in how many of them the bus had a frame (noise is none)");
        SlotCluster x = Scenes.on(4, 1);
        x.run(1);
        x.on(0, 0);
        due("noise in slot 9: run(8)", x.run(8), 0);
        due("noise in slot 9: bus()", x.bus(), -2);
        due("START in slot 21: run(12)", x.run(12), 1);
        SlotCluster lost = Scenes.united(4);
        lost.mute(2);
        lost.mute(3);
        due("two lost of 8: run(8)", lost.run(8), 6);
    }

    private static void promise10HowManySlotsWentBy() {
        CHECKS.sentence("How many slots went by.");
        SlotCluster x = new SlotCluster(5);
        due("new: slots()", x.slots(), 0);
        x.run(0);
        due("run(0): slots()", x.slots(), 0);
        x.run(1);
        due("run(1): slots()", x.slots(), 1);
        x.run(40);
        due("run(40): slots()", x.slots(), 41);
        x.run(41);
        x.run(-1);
        due("refused: slots()", x.slots(), 41);
        for (int call = 0; call < 500; call++) {
            x.run(40);
        }
        due("500 times 40 more: slots()", x.slots(), 20041);
    }

    private static void promise11() {
        nothingAlsoBeforeTheFirstSlot();
        theSenderAnd8ForAFullFrameTheSenderForAStartFrame();
        busNoise();
    }

    private static void nothingAlsoBeforeTheFirstSlot() {
        CHECKS.sentence("-1 nothing (also before the first slot)");
        for (int n = 4; n <= 6; n++) {
            SlotCluster x = new SlotCluster(n);
            due("new: bus()", x.bus(), -1);
            x.run(0);
            due("run(0): bus()", x.bus(), -1);
            x.on(0, 0);
            due("on: bus()", x.bus(), -1);
            x.run(1);
            due("a silent slot: bus()", x.bus(), -1);
        }
        SlotCluster after = Scenes.on(4, 0);
        after.run(8);
        due("a START: bus()", after.bus(), 0);
        after.run(1);
        due("a silent slot after it: bus()", after.bus(), -1);
    }

    private static void theSenderAnd8ForAFullFrameTheSenderForAStartFrame() {
        CHECKS.sentence("the sender + 8 for a FULL frame, the sender for a START frame");
        for (int n = 4; n <= 6; n++) {
            for (int node = 0; node < n; node++) {
                SlotCluster x = Scenes.on(n, node);
                x.run(2 * n + node);
                due("START: bus()", x.bus(), node);
            }
            SlotCluster x = Scenes.united(n);
            for (int slot = 1; slot <= n; slot++) {
                x.run(1);
                due("FULL: bus()", x.bus(), 8 + (1 + slot) % n);
            }
            x.run(0);
            x.run(41);
            x.off(1);
            due("no slot since: bus()", x.bus(), 8 + 1);
        }
    }

    private static void busNoise() {
        CHECKS.sentence("-2 noise");
        for (int senders = 2; senders <= 6; senders++) {
            SlotCluster x = Scenes.startsAtOnce(6, senders);
            due(senders + " senders: bus()", x.bus(), -2);
            x.run(1);
            due("the slot after: bus()", x.bus(), -1);
        }
    }

    private static void promise12TheModeOfANodeMinus1WhenThereIsNone() {
        CHECKS.sentence("The mode of a node; -1 when there is none.");
        SlotCluster x = Scenes.everyMode();
        int[] modes = {5, 0, 4, 2, 1, 3};
        for (int node = 0; node < 6; node++) {
            due("mode(" + node + ")", x.mode(node), modes[node]);
        }
        for (int node : noNodes(x)) {
            due("mode(" + node + ")", x.mode(node), -1);
        }
    }

    private static void promise13MembersOfANodeThatIsInside() {
        CHECKS.sentence("MEMBERS of a node that is inside; -1 when there is none or it is not inside.");
        SlotCluster x = Scenes.everyMode();
        int[] members = {-1, -1, 40, 40, -1, 40};
        for (int node = 0; node < 6; node++) {
            due("members(" + node + ") in mode " + x.mode(node), x.members(node), members[node]);
        }
        for (int node : noNodes(x)) {
            due("members(" + node + ")", x.members(node), -1);
        }
    }

    private static void promise14TimeTimes8AndTurnOfANodeThatIsInside() {
        CHECKS.sentence("TIME * 8 + TURN of a node that is inside; -1 when there is none or it is not inside.");
        SlotCluster x = Scenes.everyMode();
        x.run(1);
        int[] times = {-1, -1, 4 * 8 + 1, 4 * 8 + 1, -1, 4 * 8 + 1};
        for (int node = 0; node < 6; node++) {
            due("time(" + node + ") in mode " + x.mode(node), x.time(node), times[node]);
        }
        for (int node : noNodes(x)) {
            due("time(" + node + ")", x.time(node), -1);
        }
    }

    private static void promise15AgreedTimes1024FailedTimes4AndAckOfANodeThatIsInside() {
        CHECKS.sentence("AGREED * 1024 + FAILED * 4 + ACK of a node that is inside; -1 when there is none or it is not"
            + " inside.");
        SlotCluster x = Scenes.everyMode();
        int[] counts = {-1, -1, 2 * 1024, 2 * 1024, -1, 1024 + 1};
        for (int node = 0; node < 6; node++) {
            due("counts(" + node + ") in mode " + x.mode(node), x.counts(node), counts[node]);
        }
        for (int node : noNodes(x)) {
            due("counts(" + node + ")", x.counts(node), -1);
        }
        SlotCluster y = Scenes.united(4);
        y.deafen(3);
        y.run(3);
        due("AGREED 1, FAILED 1 and ACK 1: counts(3)", y.counts(3), 1024 + 4 + 1);
    }

    private static void promise16WaitTimes4AndTriesOfANodeThatIsListen() {
        CHECKS.sentence("WAIT * 4 + TRIES of a node that is LISTEN; -1 when there is none or it is not LISTEN.");
        SlotCluster x = Scenes.everyMode();
        for (int node = 0; node < 6; node++) {
            due("patience(" + node + ") in mode " + x.mode(node), x.patience(node), node == 4 ? 16 * 4 + 3 : -1);
        }
        for (int node : noNodes(x)) {
            due("patience(" + node + ")", x.patience(node), -1);
        }
        SlotCluster last = Scenes.on(4, 0);
        last.run(40);
        last.run(3);
        due("the least there is, WAIT 1 and TRIES 0: patience(0)", last.patience(0), 4);
    }

    private static void promise17SkewOfNodeALessThatOfNodeB() {
        CHECKS.sentence("SKEW of node a less that of node b; 0 when there is no such node or one of them is OFF");
        SlotCluster x = Scenes.everyMode();
        int[] skews = {1000, 0, -1000, 7, -8, 100};
        for (int node = 0; node < 6; node++) {
            x.shift(node, skews[node]);
        }
        for (int a = 0; a < 6; a++) {
            for (int b = 0; b < 6; b++) {
                due("gap(" + a + ", " + b + ")", x.gap(a, b), a == 1 || b == 1 ? 0 : skews[a] - skews[b]);
            }
            for (int none : noNodes(x)) {
                due("gap(" + a + ", " + none + ")", x.gap(a, none), 0);
                due("gap(" + none + ", " + a + ")", x.gap(none, a), 0);
                due("gap(" + none + ", " + none + ")", x.gap(none, none), 0);
            }
        }
    }

    private static void promise18() {
        atLeastTwoActiveNodes();
        allOfThemHaveTheSameMembers();
        allOfThemHaveTheSameTurnAndTime();
    }

    private static void atLeastTwoActiveNodes() {
        CHECKS.sentence("Whether there are at least two ACTIVE nodes");
        SlotCluster x = Scenes.allOn(4);
        due("new: united()", new SlotCluster(4).united(), false);
        x.run(17);
        due("none, one COLD and two PASSIVE: united()", x.united(), false);
        x.run(1);
        due("one: united()", x.united(), false);
        x.run(1);
        due("two: united()", x.united(), true);
        x.run(1);
        due("three: united()", x.united(), true);
        x.run(1);
        due("four: united()", x.united(), true);
        x.off(0);
        x.off(1);
        due("two left: united()", x.united(), true);
        x.off(2);
        due("one left: united()", x.united(), false);
        x.off(3);
        due("none left: united()", x.united(), false);
    }

    private static void allOfThemHaveTheSameMembers() {
        CHECKS.sentence("and all of them have the same MEMBERS");
        for (int deaf : new int[] {0, 1, 3}) {
            SlotCluster x = Scenes.united(4);
            x.deafen(deaf);
            x.run(1);
            due(deaf + " has 11, the others 15: united()", x.united(), false);
        }
        SlotCluster passive = Scenes.on(4, 0, 1, 2);
        passive.run(21);
        passive.on(3, 0);
        passive.run(1);
        Inner.put(passive, 3, "members", 0);
        due("a PASSIVE one has others: united()", passive.united(), true);
    }

    /**
     * A node keeps another in its MEMBERS for N slots at most after a frame of it with the node's own TIME.
     * So ACTIVE nodes of the same MEMBERS and another TIME must all have sent with both TIMEs within N slots.
     * By reasoning no run of 512 calls comes to that, and searching found none: so it is put in.
     */
    private static void allOfThemHaveTheSameTurnAndTime() {
        CHECKS.sentence("and all of them have the same .. TURN and TIME");
        for (int node = 0; node < 4; node++) {
            SlotCluster turn = Scenes.united(4);
            Inner.put(turn, node, "turn", 2);
            due("TURN of " + node + " differs: united()", turn.united(), false);
            SlotCluster time = Scenes.united(4);
            Inner.put(time, node, "time", 8);
            due("TIME of " + node + " differs: united()", time.united(), false);
        }
    }
}
