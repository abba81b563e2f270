import java.util.ArrayList;
import java.util.List;
import java.util.function.Supplier;
import java.util.function.ToLongFunction;

/**
 * "A call that is refused changes nothing.": each refused call of the promises 3 to 9, in objects with
 * nodes in every mode. After it every answer is as before, at once and in each of the slots after, and
 * the same nodes are muted and deaf.
 */
public final class RefusedCallsTest {
    private static final int SLOTS_AFTER = 60;
    private static final int OFF = 0;
    private static final int FROZEN = 5;
    private static final Checks CHECKS = new Checks();

    private final Supplier<SlotCluster> scene;
    private final int size;
    private final int[] noNodes;
    private final List<String> undisturbed = new ArrayList<>();

    private RefusedCallsTest(Supplier<SlotCluster> scene) {
        this.scene = scene;
        size = scene.get().nodes();
        noNodes = new int[] {-1, size, size + 1, 31, 32, Integer.MIN_VALUE, Integer.MAX_VALUE};
        for (int slots = 0; slots <= SLOTS_AFTER; slots++) {
            undisturbed.add(after(scene.get(), slots));
        }
    }

    public static void main(String[] args) {
        scenesAreAsSaid();
        List<Supplier<SlotCluster>> scenes = List.of(
            () -> new SlotCluster(4), Scenes::everyModeAtOdds, () -> marked(Scenes.everyModeAtOdds()),
            RefusedCallsTest::heardAndTried, () -> marked(heardAndTried()), () -> Scenes.united(5));
        for (Supplier<SlotCluster> scene : scenes) {
            RefusedCallsTest test = new RefusedCallsTest(scene);
            test.onRefused();
            test.offRefused();
            test.thawRefused();
            test.muteRefused();
            test.deafenRefused();
            test.shiftRefused();
            test.runRefusedWhenNIsNot0To40();
        }
        CHECKS.end();
    }

    private void onRefused() {
        onRefusedWhenThereIsNoSuchNode();
        onRefusedWhenItIsNotOff();
        onRefusedWhenRateIsNotMinus2To2();
    }

    private void offRefused() {
        offFalseWhenThereIsNone();
        offFalseWhenItIsOff();
    }

    private void thawRefused() {
        thawFalseWhenThereIsNone();
        thawFalseWhenItIsNotFrozen();
    }

    private void muteRefused() {
        muteFalseWhenThereIsNone();
        muteFalseWhenItIsOff();
        muteFalseWhenItIsMuted();
    }

    private void deafenRefused() {
        deafenFalseWhenThereIsNone();
        deafenFalseWhenItIsOff();
        deafenFalseWhenItIsDeaf();
    }

    private void shiftRefused() {
        shiftFalseWhenThereIsNone();
        shiftFalseWhenItIsOff();
        shiftFalseWhenTicksIsNotMinus1000To1000();
    }

    /** Slot 10: node 0 is COLD with TRIES 2; 1 and 3 have heard its START, so that 3 comes in by the next. */
    private static SlotCluster heardAndTried() {
        SlotCluster x = Scenes.on(4, 0, 1, 3);
        x.run(10);
        return x;
    }

    private static SlotCluster marked(SlotCluster x) {
        for (int node = 0; node < x.nodes(); node++) {
            x.mute(node);
            x.deafen(node);
        }
        return x;
    }

    private static void scenesAreAsSaid() {
        int[] modes = {5, 0, 4, 2, 1, 3};
        for (int node = 0; node < modes.length; node++) {
            CHECKS.due("every mode: mode(" + node + ")", Scenes.everyModeAtOdds().mode(node), modes[node]);
        }
        SlotCluster x = heardAndTried();
        x.run(7);
        CHECKS.due("heard and tried: patience(0)", x.patience(0), 8 * 4 + 2);
        CHECKS.due("heard and tried: mode(3)", x.mode(3), 4);
    }

    private static String after(SlotCluster x, int slots) {
        x.run(slots / 2);
        x.run(slots - slots / 2);
        String answers = Answers.of(x);
        return answers + " | " + Answers.marksOf(x);
    }

    private void refused(String call, long refusal, ToLongFunction<SlotCluster> asked) {
        SlotCluster x = scene.get();
        String before = Answers.of(x);
        CHECKS.due(call, asked.applyAsLong(x), refusal);
        CHECKS.same("all, right after " + call + ",", Answers.of(x), before);
        for (int slots = 0; slots <= SLOTS_AFTER; slots++) {
            SlotCluster later = scene.get();
            asked.applyAsLong(later);
            CHECKS.same("all, " + slots + " slots after " + call + ",", after(later, slots), undisturbed.get(slots));
        }
    }

    private static long truth(boolean answer) {
        return answer ? 1 : 0;
    }

    private List<Integer> nodesOfMode(int mode) {
        List<Integer> found = new ArrayList<>();
        SlotCluster x = scene.get();
        for (int node = 0; node < size; node++) {
            if (x.mode(node) == mode) {
                found.add(node);
            }
        }
        return found;
    }

    private List<Integer> nodesNotOfMode(int mode) {
        List<Integer> found = new ArrayList<>();
        for (int node = 0; node < size; node++) {
            found.add(node);
        }
        found.removeAll(nodesOfMode(mode));
        return found;
    }

    private void onRefusedWhenThereIsNoSuchNode() {
        CHECKS.sentence("on: false, refused, when there is no such node");
        for (int node : noNodes) {
            refused("on(" + node + ", 1)", 0, x -> truth(x.on(node, 1)));
        }
    }

    private void onRefusedWhenItIsNotOff() {
        CHECKS.sentence("on: false, refused, when .. it is not OFF");
        for (int node : nodesNotOfMode(OFF)) {
            for (int rate : new int[] {-2, -1, 0, 1, 2}) {
                refused("on(" + node + ", " + rate + ")", 0, x -> truth(x.on(node, rate)));
            }
        }
    }

    private void onRefusedWhenRateIsNotMinus2To2() {
        CHECKS.sentence("on: false, refused, when .. rate is not -2 .. 2");
        for (int node = 0; node < size; node++) {
            int asked = node;
            for (int rate : new int[] {-3, 3, Integer.MIN_VALUE, Integer.MAX_VALUE}) {
                refused("on(" + node + ", " + rate + ")", 0, x -> truth(x.on(asked, rate)));
            }
        }
    }

    private void offFalseWhenThereIsNone() {
        CHECKS.sentence("off: false when there is none");
        for (int node : noNodes) {
            refused("off(" + node + ")", 0, x -> truth(x.off(node)));
        }
    }

    private void offFalseWhenItIsOff() {
        CHECKS.sentence("off: false when .. it is OFF");
        for (int node : nodesOfMode(OFF)) {
            refused("off(" + node + ")", 0, x -> truth(x.off(node)));
        }
    }

    private void thawFalseWhenThereIsNone() {
        CHECKS.sentence("thaw: false when there is none");
        for (int node : noNodes) {
            refused("thaw(" + node + ")", 0, x -> truth(x.thaw(node)));
        }
    }

    private void thawFalseWhenItIsNotFrozen() {
        CHECKS.sentence("thaw: false when .. it is not FROZEN");
        for (int node : nodesNotOfMode(FROZEN)) {
            refused("thaw(" + node + ")", 0, x -> truth(x.thaw(node)));
        }
    }

    private void muteFalseWhenThereIsNone() {
        CHECKS.sentence("mute: false when there is none");
        for (int node : noNodes) {
            refused("mute(" + node + ")", 0, x -> truth(x.mute(node)));
        }
    }

    /** A mark that an OFF node took by a refused call would show only when it is on again. */
    private void muteFalseWhenItIsOff() {
        CHECKS.sentence("mute: false when .. it is OFF");
        for (int node : nodesOfMode(OFF)) {
            refused("mute(" + node + ")", 0, x -> truth(x.mute(node)));
            SlotCluster x = scene.get();
            x.mute(node);
            x.on(node, 0);
            CHECKS.due("after on: mute(" + node + ")", x.mute(node), true);
        }
    }

    private void muteFalseWhenItIsMuted() {
        CHECKS.sentence("mute: false when .. it is .. muted");
        for (int node : nodesNotOfMode(OFF)) {
            RefusedCallsTest muted = new RefusedCallsTest(() -> {
                SlotCluster x = scene.get();
                x.mute(node);
                return x;
            });
            muted.refused("mute(" + node + ")", 0, x -> truth(x.mute(node)));
        }
    }

    private void deafenFalseWhenThereIsNone() {
        CHECKS.sentence("deafen: false when there is none");
        for (int node : noNodes) {
            refused("deafen(" + node + ")", 0, x -> truth(x.deafen(node)));
        }
    }

    private void deafenFalseWhenItIsOff() {
        CHECKS.sentence("deafen: false when .. it is OFF");
        for (int node : nodesOfMode(OFF)) {
            refused("deafen(" + node + ")", 0, x -> truth(x.deafen(node)));
            SlotCluster x = scene.get();
            x.deafen(node);
            x.on(node, 0);
            CHECKS.due("after on: deafen(" + node + ")", x.deafen(node), true);
        }
    }

    private void deafenFalseWhenItIsDeaf() {
        CHECKS.sentence("deafen: false when .. it is .. deaf");
        for (int node : nodesNotOfMode(OFF)) {
            RefusedCallsTest deaf = new RefusedCallsTest(() -> {
                SlotCluster x = scene.get();
                x.deafen(node);
                return x;
            });
            deaf.refused("deafen(" + node + ")", 0, x -> truth(x.deafen(node)));
        }
    }

    private void shiftFalseWhenThereIsNone() {
        CHECKS.sentence("shift: false when there is none");
        for (int node : noNodes) {
            refused("shift(" + node + ", 5)", 0, x -> truth(x.shift(node, 5)));
        }
    }

    private void shiftFalseWhenItIsOff() {
        CHECKS.sentence("shift: false when .. it is OFF");
        for (int node : nodesOfMode(OFF)) {
            refused("shift(" + node + ", 5)", 0, x -> truth(x.shift(node, 5)));
        }
    }

    private void shiftFalseWhenTicksIsNotMinus1000To1000() {
        CHECKS.sentence("shift: false when .. ticks is not -1000 .. 1000");
        for (int node = 0; node < size; node++) {
            int asked = node;
            for (int ticks : new int[] {-1001, 1001, Integer.MIN_VALUE, Integer.MAX_VALUE}) {
                refused("shift(" + node + ", " + ticks + ")", 0, x -> truth(x.shift(asked, ticks)));
            }
        }
    }

    private void runRefusedWhenNIsNot0To40() {
        CHECKS.sentence("run: -1, refused, when n is not 0 .. 40");
        for (int n : new int[] {-1, 41, -40, Integer.MIN_VALUE, Integer.MAX_VALUE}) {
            refused("run(" + n + ")", -1, x -> x.run(n));
        }
    }
}
