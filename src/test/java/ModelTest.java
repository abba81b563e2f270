/** Long mixed runs of calls, each answer held against the second telling of the document in Model. */
public final class ModelTest {
    private static final int OBJECTS = 3000;
    private static final int CALLS = 512;

    private final Checks checks = new Checks();
    private long seed = 20261115L;
    private SlotCluster x;
    private Model model;
    private String where;

    public static void main(String[] args) {
        ModelTest test = new ModelTest();
        for (int object = 0; object < OBJECTS; object++) {
            test.oneObject(object);
        }
        test.checks.end();
    }

    /** A plain counter-like generator, so that every machine sees the same runs. */
    private int below(int bound) {
        seed = seed * 6364136223846793005L + 1442695040888963407L;
        return (int) ((seed >>> 33) % bound);
    }

    private int between(int least, int greatest) {
        return least + below(greatest - least + 1);
    }

    private void oneObject(int object) {
        int size = between(3, 7);
        x = new SlotCluster(size);
        model = new Model(size);
        int faultsInHundred = between(0, 40);
        int longest = between(1, 40);
        int calls = switchMostOn(object);
        for (; calls < CALLS; calls++) {
            where = "object " + object + ", call " + calls + ": ";
            int dice = below(100);
            if (dice < faultsInHundred) {
                fault();
            } else if (dice < 60) {
                int slots = below(50) == 0 ? between(-2, 42) : below(longest + 1);
                checks.due(where + "run(" + slots + ")", x.run(slots), model.run(slots));
            } else {
                look();
            }
        }
    }

    private int switchMostOn(int object) {
        where = "object " + object + ", first calls: ";
        int calls = 0;
        for (int k = 0; k < model.n; k++) {
            if (below(8) != 0) {
                int rate = below(2) * between(-2, 2);
                checks.due(where + "on(" + k + ", " + rate + ")", x.on(k, rate), model.on(k, rate));
                calls++;
            }
        }
        return calls;
    }

    private int anyNode() {
        return below(40) == 0 ? between(-2, 8) : below(model.n);
    }

    private void fault() {
        int node = anyNode();
        switch (below(12)) {
            case 0:
            case 1:
                int rate = below(20) == 0 ? between(-4, 4) : between(-2, 2);
                checks.due(where + "on(" + node + ", " + rate + ")", x.on(node, rate), model.on(node, rate));
                break;
            case 2:
                checks.due(where + "off(" + node + ")", x.off(node), model.off(node));
                break;
            case 3:
            case 4:
                checks.due(where + "thaw(" + node + ")", x.thaw(node), model.thaw(node));
                break;
            case 5:
            case 6:
            case 7:
                checks.due(where + "mute(" + node + ")", x.mute(node), model.mute(node));
                break;
            case 8:
            case 9:
            case 10:
                checks.due(where + "deafen(" + node + ")", x.deafen(node), model.deafen(node));
                break;
            default:
                int ticks = below(10) == 0 ? between(-1100, 1100) : between(-70, 70);
                checks.due(where + "shift(" + node + ", " + ticks + ")", x.shift(node, ticks), model.shift(node, ticks));
                break;
        }
    }

    private void look() {
        int node = anyNode();
        switch (below(9)) {
            case 0:
                checks.due(where + "slots()", x.slots(), model.slots());
                break;
            case 1:
                checks.due(where + "bus()", x.bus(), model.bus());
                break;
            case 2:
                checks.due(where + "mode(" + node + ")", x.mode(node), model.mode(node));
                break;
            case 3:
                checks.due(where + "members(" + node + ")", x.members(node), model.members(node));
                break;
            case 4:
                checks.due(where + "time(" + node + ")", x.time(node), model.time(node));
                break;
            case 5:
                checks.due(where + "counts(" + node + ")", x.counts(node), model.counts(node));
                break;
            case 6:
                checks.due(where + "patience(" + node + ")", x.patience(node), model.patience(node));
                break;
            case 7:
                int other = anyNode();
                checks.due(where + "gap(" + node + ", " + other + ")", x.gap(node, other), model.gap(node, other));
                break;
            default:
                checks.due(where + "united()", x.united(), model.united());
                break;
        }
    }
}
