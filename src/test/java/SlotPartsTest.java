/** Promise 9 with the parts of a slot: runs worked out by hand from the document's Terms. */
public final class SlotPartsTest {
    private static final Checks CHECKS = new Checks();

    public static void main(String[] args) {
        loneNodeTriesThreeTimes();
        twoStartsAtOnce();
        coldNodeHearsNoise();
        coldNodeFreezes();
        listeningNodeIsDeaf();
        lateNodeComesIn();
        mutedNodeStepsBack();
        suspectIsStruckOut();
        frozenNodeComesBack();
        widestDeviation(60, 15, 2 * 1024 + 1024);
        widestDeviation(-60, 15, 2 * 1024 + 1024);
        widestDeviation(61, 11, 2 * 1024 + 4);
        widestDeviation(-61, 11, 2 * 1024 + 4);
        clocksAreCorrected();
        meanIsCutTowardsZero();
        CHECKS.end();
    }

    private static void due(String call, long got, long want) {
        CHECKS.due(call, got, want);
    }

    private static void loneNodeTriesThreeTimes() {
        SlotCluster x = Scenes.on(4, 0);
        int[][] slotModePatience = {
            {7, 1, 4 + 3}, {8, 2, -1}, {11, 2, -1}, {12, 1, 32 + 2}, {19, 1, 4 + 2}, {20, 2, -1}, {24, 1, 32 + 1},
            {32, 2, -1}, {36, 1, 32}, {43, 1, 4}, {44, 5, -1}, {60, 5, -1},
        };
        int frames = 0;
        for (int[] row : slotModePatience) {
            frames += x.run(row[0] - x.slots());
            due("lone node, slot " + row[0] + ": mode", x.mode(0), row[1]);
            due("lone node, slot " + row[0] + ": patience", x.patience(0), row[2]);
        }
        due("lone node: frames", frames, 3);
    }

    private static void twoStartsAtOnce() {
        SlotCluster x = Scenes.on(4, 1);
        x.run(1);
        x.on(0, 0);
        due("two starts: run(8)", x.run(8), 0);
        due("two starts: bus", x.bus(), -2);
        due("two starts: mode(0)", x.mode(0), 2);
        due("two starts: mode(1)", x.mode(1), 2);
        due("two starts: time(0)", x.time(0), 0);
        due("two starts: time(1)", x.time(1), 1);
        x.run(1);
        due("next slot: time(0)", x.time(0), 8 + 1);
        due("next slot: time(1)", x.time(1), 8 + 2);
        due("next slot: bus", x.bus(), -1);
        due("silence is no failure", x.counts(0), 1024);
        x.run(3);
        due("slot 13: patience(0)", x.patience(0), 8 * 4 + 2);
        due("slot 13: patience(1)", x.patience(1), 9 * 4 + 2);
        due("slot 21: run(8)", x.run(8), 1);
        due("slot 21: bus", x.bus(), 0);
        due("slot 21: WAIT begins anew at a START", x.patience(1), 9 * 4 + 2);
    }

    private static void coldNodeHearsNoise() {
        SlotCluster x = Scenes.on(4, 2);
        x.run(2);
        x.on(1, 0);
        x.run(1);
        x.on(0, 0);
        x.deafen(0);
        x.deafen(1);
        due("slot 10: run(7)", x.run(7), 1);
        due("slot 10: bus", x.bus(), 2);
        due("slot 11: run(1)", x.run(1), 0);
        due("slot 11: bus", x.bus(), -2);
        due("slot 11: noise counts as failed", x.counts(2), 1024 + 4);
    }

    private static void coldNodeFreezes() {
        SlotCluster x = Scenes.on(4, 0, 1);
        x.deafen(1);
        x.run(8);
        due("slot 9: run(1)", x.run(1), 1);
        due("slot 9: bus", x.bus(), 1);
        due("slot 9: a START counts as failed", x.counts(0), 1024 + 4);
        x.run(3);
        due("slot 12: frozen with AGREED as FAILED", x.mode(0), 5);
        x.run(1);
        due("slot 13: listens, as nobody was heard", x.mode(1), 1);
    }

    private static void listeningNodeIsDeaf() {
        SlotCluster x = Scenes.on(4, 0, 1);
        x.deafen(1);
        x.run(8);
        due("noise does not renew WAIT", x.patience(1), 4 + 3);
        CHECKS.due("deaf no more", x.deafen(1), true);
    }

    private static void lateNodeComesIn() {
        SlotCluster x = Scenes.on(4, 0, 1, 2);
        x.run(21);
        due("three: members(1)", x.members(1), 7);
        x.on(3, 0);
        x.shift(3, 500);
        x.run(1);
        due("slot 22: mode(3)", x.mode(3), 4);
        due("slot 22: time(3)", x.time(3), 5 * 8 + 2);
        due("slot 22: members(3)", x.members(3), 7);
        due("slot 22: counts(3)", x.counts(3), 1024);
        due("slot 22: SKEW of the frame", x.gap(3, 2), 0);
        x.run(1);
        due("slot 23: bus", x.bus(), 11);
        due("slot 23: mode(3)", x.mode(3), 3);
        for (int k = 0; k < 4; k++) {
            due("slot 23: members", x.members(k), 15);
        }
    }

    private static void mutedNodeStepsBack() {
        SlotCluster x = Scenes.united(4);
        x.mute(2);
        x.run(1);
        due("slot 22: members(0)", x.members(0), 11);
        due("slot 22: nothing counted", x.counts(0), 2 * 1024);
        due("slot 22: members(2)", x.members(2), 15);
        due("slot 22: counts(2)", x.counts(2), 1025);
        x.run(1);
        due("slot 23: in doubt, nothing counted", x.counts(2), 1026);
        due("slot 23: members(2)", x.members(2), 15);
        x.run(1);
        due("slot 24: steps back", x.mode(2), 4);
        due("slot 24: members(2)", x.members(2), 11);
        due("slot 24: agreed twice", x.counts(2), 3 * 1024);
        x.run(1);
        due("slot 25: counts(2)", x.counts(2), 4 * 1024);
        due("slot 26: run(1)", x.run(1), 1);
        due("slot 26: mode(2)", x.mode(2), 3);
        due("slot 26: members(3)", x.members(3), 15);
    }

    private static SlotCluster withSuspect() {
        SlotCluster x = Scenes.united(4);
        x.deafen(3);
        x.run(1);
        return x;
    }

    private static void suspectIsStruckOut() {
        SlotCluster x = withSuspect();
        due("slot 22: counts(3)", x.counts(3), 3 * 1024 + 4);
        x.run(1);
        due("slot 23: counts(2)", x.counts(2), 1026);
        due("slot 23: members(0)", x.members(0), 7);
        due("slot 23: counts(0)", x.counts(0), 3 * 1024 + 4);
        x.run(1);
        due("slot 24: the suspect leaves", x.members(2), 7);
        due("slot 24: counts(2)", x.counts(2), 2 * 1024 + 4);
        due("slot 24: mode(2)", x.mode(2), 3);
        due("slot 24: members(3)", x.members(3), 10);
        due("slot 24: counts(3)", x.counts(3), 1024 + 4 + 1);
        x.run(2);
        due("slot 26: counts(3)", x.counts(3), 1024 + 12 + 1);
        due("slot 26: members(3)", x.members(3), 8);
        due("slot 27: run(1)", x.run(1), 0);
        due("slot 27: frozen", x.mode(3), 5);
    }

    private static void frozenNodeComesBack() {
        SlotCluster x = withSuspect();
        x.run(9);
        due("slot 31: a frozen node stays so", x.mode(3), 5);
        x.thaw(3);
        due("thawed: patience(3)", x.patience(3), 11 * 4 + 3);
        x.run(1);
        due("slot 32: comes in", x.mode(3), 4);
        due("slot 32: members(3)", x.members(3), 7);
        x.run(3);
        due("slot 35: sends", x.bus(), 11);
        due("slot 35: members(0)", x.members(0), 15);
        CHECKS.due("slot 35: united()", x.united(), true);
    }

    private static void widestDeviation(int ticks, int members, int counts) {
        SlotCluster x = Scenes.united(4);
        x.shift(2, ticks);
        x.run(1);
        due("deviation " + ticks + ": members(0)", x.members(0), members);
        due("deviation " + ticks + ": counts(0)", x.counts(0), counts);
    }

    private static void clocksAreCorrected() {
        SlotCluster x = Scenes.united(4);
        x.shift(2, 60);
        x.run(5);
        due("slot 26: gap(2, 0)", x.gap(2, 0), 60);
        due("slot 26: gap(3, 0)", x.gap(3, 0), 0);
        x.run(1);
        due("slot 27: gap(2, 0)", x.gap(2, 0), 0);
        due("slot 27: gap(3, 0)", x.gap(3, 0), 30);
        due("slot 27: gap(1, 0)", x.gap(1, 0), 0);
    }

    private static void meanIsCutTowardsZero() {
        SlotCluster x = Scenes.united(4);
        x.shift(2, -5);
        x.run(6);
        due("slot 27: gap(3, 0)", x.gap(3, 0), -2);
        due("slot 27: gap(2, 0)", x.gap(2, 0), 0);
        x.run(4);
        due("slot 31: the deviations stay", x.gap(3, 0), 0);
    }
}
