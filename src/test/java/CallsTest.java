/** Each promise by itself: what a call answers, its edges, and wrong inputs that are refused. */
public final class CallsTest {
    private static final int[] NO_NODES_OF_4 = {-1, 4, 5, 6, 7, 32, Integer.MIN_VALUE, Integer.MAX_VALUE};
    private static final Checks CHECKS = new Checks();

    public static void main(String[] args) {
        promise1NewObject();
        promise2Nodes();
        promise3On();
        promise4Off();
        promise5Thaw();
        promise6Mute();
        promise7Deafen();
        promise8Shift();
        promise9Run();
        promise10Slots();
        promise11Bus();
        promise12Mode();
        promises13To15Inside();
        promise16Patience();
        promise17Gap();
        promise18United();
        CHECKS.end();
    }

    private static void due(String call, long got, long want) {
        CHECKS.due(call, got, want);
    }

    private static void due(String call, boolean got, boolean want) {
        CHECKS.due(call, got, want);
    }

    private static void promise1NewObject() {
        for (int n : new int[] {Integer.MIN_VALUE, -1, 0, 3, 4, 5, 6, 7, Integer.MAX_VALUE}) {
            SlotCluster x = new SlotCluster(n);
            for (int k = 0; k < x.nodes(); k++) {
                due("new: mode", x.mode(k), 0);
                due("new: off", x.off(k), false);
            }
            due("new: slots", x.slots(), 0);
            due("new: bus", x.bus(), -1);
            due("new: united", x.united(), false);
            due("new: run(40)", x.run(40), 0);
        }
        SlotCluster x = Scenes.allOn(4);
        due("new: mute, was not muted", x.mute(0), true);
        due("new: deafen, was not deaf", x.deafen(0), true);
    }

    private static void promise2Nodes() {
        int[][] sizes = {{Integer.MIN_VALUE, 4}, {-3, 4}, {0, 4}, {3, 4}, {4, 4}, {5, 5}, {6, 6}, {7, 6}, {Integer.MAX_VALUE, 6}};
        for (int[] size : sizes) {
            due("nodes() of " + size[0], new SlotCluster(size[0]).nodes(), size[1]);
        }
    }

    private static void promise3On() {
        SlotCluster x = new SlotCluster(4);
        for (int node : NO_NODES_OF_4) {
            due("on, no such node", x.on(node, 0), false);
        }
        for (int rate : new int[] {-3, 3, Integer.MIN_VALUE, Integer.MAX_VALUE}) {
            due("on, wrong rate", x.on(0, rate), false);
        }
        due("refused on changes nothing", x.mode(0), 0);
        due("on(0, -2)", x.on(0, -2), true);
        due("on(3, 2)", x.on(3, 2), true);
        due("on twice", x.on(0, 0), false);
        due("mode(0)", x.mode(0), 1);
        due("patience(0)", x.patience(0), 8 * 4 + 3);
        due("patience(3)", x.patience(3), 11 * 4 + 3);
        due("gap(3, 0)", x.gap(3, 0), 0);
        due("run(5)", x.run(5), 0);
        due("gap(3, 0) by the rates", x.gap(3, 0), 20);
        x.off(3);
        due("on(3, 1) again", x.on(3, 1), true);
        due("on: SKEW is 0 again", x.gap(3, 0), 10);
        due("on: WAIT and TRIES anew", x.patience(3), 11 * 4 + 3);
        x.run(2);
        due("on: the new rate counts", x.gap(3, 0), 16);
        SlotCluster six = new SlotCluster(6);
        due("on(5, 0) of six", six.on(5, 0), true);
        due("patience(5) of six", six.patience(5), 17 * 4 + 3);
        SlotCluster frozen = Scenes.loneFrozen(0);
        due("on of a frozen node", frozen.on(0, 0), false);
        due("on of a united node", Scenes.united(4).on(0, 0), false);
    }

    private static void promise4Off() {
        SlotCluster x = Scenes.united(4);
        for (int node : NO_NODES_OF_4) {
            due("off, no such node", x.off(node), false);
        }
        due("mute(2)", x.mute(2), true);
        due("deafen(2)", x.deafen(2), true);
        due("off(2)", x.off(2), true);
        due("mode(2)", x.mode(2), 0);
        due("off(2) again", x.off(2), false);
        due("on(2, 0)", x.on(2, 0), true);
        due("off: muted no more", x.mute(2), true);
        due("off: deaf no more", x.deafen(2), true);
        SlotCluster silent = Scenes.united(4);
        silent.off(2);
        due("off: sends nothing", silent.run(1), 0);
        due("off: others strike it out", silent.members(0), 11);
        SlotCluster frozen = Scenes.loneFrozen(0);
        due("off of a frozen node", frozen.off(0), true);
        due("off of a frozen node: mode", frozen.mode(0), 0);
    }

    private static void promise5Thaw() {
        SlotCluster x = Scenes.loneFrozen(2);
        for (int node : NO_NODES_OF_4) {
            due("thaw, no such node", x.thaw(node), false);
        }
        due("thaw of an OFF node", x.thaw(1), false);
        x.on(1, 0);
        due("thaw of a listening node", x.thaw(1), false);
        due("mute(0) frozen", x.mute(0), true);
        due("thaw(0)", x.thaw(0), true);
        due("thaw(0) again", x.thaw(0), false);
        due("thaw: mode", x.mode(0), 1);
        due("thaw: WAIT and TRIES", x.patience(0), 8 * 4 + 3);
        due("thaw: SKEW stays", x.gap(0, 1), 88);
        due("thaw: still muted", x.mute(0), false);
        x.run(1);
        due("thaw: RATE stays", x.gap(0, 1), 90);
        SlotCluster united = Scenes.united(4);
        for (int k = 0; k < 4; k++) {
            due("thaw of an ACTIVE node", united.thaw(k), false);
        }
    }

    private static void promise6Mute() {
        SlotCluster x = Scenes.united(4);
        for (int node : NO_NODES_OF_4) {
            due("mute, no such node", x.mute(node), false);
        }
        due("mute of an OFF node", new SlotCluster(4).mute(0), false);
        due("mute(2)", x.mute(2), true);
        due("mute(2) again", x.mute(2), false);
        due("the frame is lost", x.run(1), 0);
        due("lost: bus", x.bus(), -1);
        due("muted once only", x.run(3), 3);
        due("the next frame comes through", x.run(1), 1);
        due("bus", x.bus(), 10);
        due("mute(2), muted no more", x.mute(2), true);
        due("mute of a frozen node", Scenes.loneFrozen(0).mute(0), true);
        mutedAmidNoise();
    }

    private static void mutedAmidNoise() {
        SlotCluster x = new SlotCluster(4);
        x.on(1, 0);
        x.run(1);
        x.on(0, 0);
        x.mute(0);
        x.mute(1);
        due("two muted starts: no frame", x.run(8), 0);
        due("two muted starts: noise", x.bus(), -2);
        due("still muted 0", x.mute(0), false);
        due("still muted 1", x.mute(1), false);
    }

    private static void promise7Deafen() {
        SlotCluster x = Scenes.united(4);
        for (int node : NO_NODES_OF_4) {
            due("deafen, no such node", x.deafen(node), false);
        }
        due("deafen of an OFF node", new SlotCluster(4).deafen(0), false);
        due("deafen(3)", x.deafen(3), true);
        due("deafen(3) again", x.deafen(3), false);
        x.run(1);
        due("deaf: hears noise", x.counts(3), 3 * 1024 + 4);
        due("deaf: strikes the sender out", x.members(3), 11);
        due("deaf no more", x.deafen(3), true);
        due("deafen of a frozen node", Scenes.loneFrozen(0).deafen(0), true);
        SlotCluster quiet = new SlotCluster(4);
        quiet.on(0, 0);
        quiet.deafen(0);
        quiet.run(3);
        due("deaf still when nothing was sent", quiet.deafen(0), false);
        SlotCluster sender = Scenes.united(4);
        sender.deafen(2);
        sender.run(1);
        due("deaf still after its own frame", sender.deafen(2), false);
        sender.run(1);
        due("deaf no more after another's", sender.deafen(2), true);
    }

    private static void promise8Shift() {
        SlotCluster x = new SlotCluster(4);
        due("shift of an OFF node", x.shift(0, 1), false);
        x.on(0, 0);
        x.on(1, 0);
        for (int node : NO_NODES_OF_4) {
            due("shift, no such node", x.shift(node, 1), false);
        }
        for (int ticks : new int[] {-1001, 1001, Integer.MIN_VALUE, Integer.MAX_VALUE}) {
            due("shift, wrong ticks", x.shift(0, ticks), false);
        }
        due("refused shift changes nothing", x.gap(0, 1), 0);
        due("shift(0, 1000)", x.shift(0, 1000), true);
        due("gap", x.gap(0, 1), 1000);
        due("shift(0, 0)", x.shift(0, 0), true);
        due("shift(0, 7)", x.shift(0, 7), true);
        due("shift(1, -1000)", x.shift(1, -1000), true);
        due("gap", x.gap(0, 1), 2007);
        due("shift of a frozen node", Scenes.loneFrozen(0).shift(0, 5), true);
    }

    private static void promise9Run() {
        SlotCluster x = Scenes.allOn(4);
        for (int n : new int[] {-1, 41, Integer.MIN_VALUE, Integer.MAX_VALUE}) {
            due("run, wrong count", x.run(n), -1);
        }
        due("refused run: slots", x.slots(), 0);
        due("run(0)", x.run(0), 0);
        due("run(0): slots", x.slots(), 0);
        due("run(0): patience", x.patience(0), 35);
        due("run(40): starts in slots 8 and 17, then every slot", x.run(40), 25);
        due("run(40): slots", x.slots(), 40);
    }

    private static void promise10Slots() {
        SlotCluster x = new SlotCluster(5);
        for (int i = 1; i <= 100; i++) {
            x.run(40);
            due("slots", x.slots(), 40 * i);
        }
        x.run(3);
        x.run(41);
        due("slots", x.slots(), 4003);
    }

    private static void promise11Bus() {
        SlotCluster x = Scenes.allOn(4);
        int[] seen = {-1, -1, -1, -1, -1, -1, -1, 0, -1, -1, -1, -1, -1, -1, -1, -1, 1, 10, 11, 8, 9, 10};
        for (int i = 0; i < seen.length; i++) {
            x.run(1);
            due("bus in slot " + (i + 1), x.bus(), seen[i]);
        }
        x.run(0);
        due("bus stays without a slot", x.bus(), 10);
        x.run(-1);
        due("bus stays when run is refused", x.bus(), 10);
    }

    private static void promise12Mode() {
        SlotCluster x = Scenes.allOn(4);
        for (int node : NO_NODES_OF_4) {
            due("mode, no such node", x.mode(node), -1);
        }
        x.run(7);
        due("slot 7", x.mode(0), 1);
        x.run(1);
        due("slot 8", x.mode(0), 2);
        x.run(3);
        due("slot 11", x.mode(0), 2);
        x.run(1);
        due("slot 12", x.mode(0), 1);
        x.run(5);
        due("slot 17", x.mode(2), 4);
        x.run(1);
        due("slot 18", x.mode(2), 3);
        x.off(2);
        due("off", x.mode(2), 0);
        due("frozen", Scenes.loneFrozen(0).mode(0), 5);
    }

    private static void promises13To15Inside() {
        SlotCluster x = Scenes.allOn(4);
        for (int node : NO_NODES_OF_4) {
            due("members, no such node", x.members(node), -1);
            due("time, no such node", x.time(node), -1);
            due("counts, no such node", x.counts(node), -1);
        }
        notInside("listening", x, 0);
        notInside("OFF", new SlotCluster(4), 0);
        notInside("frozen", Scenes.loneFrozen(0), 0);
        x.run(18);
        inside("COLD in slot 18", x, 1, new int[] {6, 8 + 2, 2 * 1024});
        inside("ACTIVE in slot 18", x, 2, new int[] {6, 8 + 2, 1025});
        inside("PASSIVE in slot 18", x, 3, new int[] {6, 8 + 2, 2 * 1024});
        inside("PASSIVE just come in", x, 0, new int[] {6, 8 + 2, 1024});
        x.run(3);
        inside("slot 21", x, 0, new int[] {15, 4 * 8 + 1, 2 * 1024});
        inside("slot 21", x, 1, new int[] {15, 4 * 8 + 1, 1025});
        inside("slot 21", x, 2, new int[] {15, 4 * 8 + 1, 4 * 1024});
        inside("slot 21", x, 3, new int[] {15, 4 * 8 + 1, 3 * 1024});
        x.off(2);
        notInside("switched off", x, 2);
    }

    private static void inside(String when, SlotCluster x, int node, int[] want) {
        due(when + ": members(" + node + ")", x.members(node), want[0]);
        due(when + ": time(" + node + ")", x.time(node), want[1]);
        due(when + ": counts(" + node + ")", x.counts(node), want[2]);
        due(when + ": patience(" + node + ")", x.patience(node), -1);
    }

    private static void notInside(String when, SlotCluster x, int node) {
        due(when + ": members", x.members(node), -1);
        due(when + ": time", x.time(node), -1);
        due(when + ": counts", x.counts(node), -1);
    }

    private static void promise16Patience() {
        SlotCluster x = new SlotCluster(5);
        for (int node : new int[] {-1, 5, 6, Integer.MIN_VALUE, Integer.MAX_VALUE}) {
            due("patience, no such node", x.patience(node), -1);
        }
        due("patience of an OFF node", x.patience(2), -1);
        x.on(2, 0);
        for (int wait = 12; wait > 0; wait--) {
            due("patience", x.patience(2), wait * 4 + 3);
            x.run(1);
        }
        due("patience of a COLD node", x.patience(2), -1);
        x.run(5);
        due("patience after the first try", x.patience(2), 12 * 4 + 2);
        due("patience of a frozen node", Scenes.loneFrozen(0).patience(0), -1);
    }

    private static void promise17Gap() {
        SlotCluster x = new SlotCluster(4);
        x.on(0, 1);
        x.on(1, -2);
        x.shift(1, 100);
        due("gap(0, 1)", x.gap(0, 1), -100);
        due("gap(1, 0)", x.gap(1, 0), 100);
        due("gap(1, 1)", x.gap(1, 1), 0);
        due("gap with an OFF node", x.gap(1, 2), 0);
        due("gap of an OFF node", x.gap(2, 1), 0);
        for (int node : NO_NODES_OF_4) {
            due("gap, no such node", x.gap(1, node), 0);
            due("gap, no such node", x.gap(node, 1), 0);
            due("gap, no such nodes", x.gap(node, node), 0);
        }
        x.run(3);
        due("gap by the rates", x.gap(0, 1), -91);
        x.off(1);
        due("gap after off", x.gap(0, 1), 0);
        SlotCluster frozen = Scenes.loneFrozen(2);
        frozen.on(1, 0);
        due("gap of a frozen node", frozen.gap(0, 1), 88);
        frozen.run(1);
        due("a frozen node's SKEW still grows", frozen.gap(0, 1), 90);
    }

    private static void promise18United() {
        SlotCluster x = Scenes.allOn(4);
        x.run(17);
        due("united with no ACTIVE node", x.united(), false);
        x.run(1);
        due("united with one ACTIVE node", x.united(), false);
        x.run(1);
        due("united with two ACTIVE nodes", x.united(), true);
        x.run(2);
        due("united with four", x.united(), true);
        x.deafen(3);
        x.run(1);
        due("united with other MEMBERS", x.united(), false);
        x.run(4);
        due("united, slot 26", x.united(), false);
        x.run(1);
        due("united without the frozen node", x.united(), true);
    }
}
