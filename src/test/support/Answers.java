/** All that an object answers without being changed by it. */
final class Answers {
    private Answers() {
    }

    static String of(SlotCluster x) {
        StringBuilder all = new StringBuilder();
        all.append("nodes ").append(x.nodes()).append(" slots ").append(x.slots());
        all.append(" bus ").append(x.bus()).append(" united ").append(x.united());
        for (int node = -1; node <= x.nodes(); node++) {
            all.append(" | ").append(x.mode(node)).append(' ').append(x.members(node)).append(' ').append(x.time(node));
            all.append(' ').append(x.counts(node)).append(' ').append(x.patience(node));
        }
        all.append(" | gaps");
        for (int a = -1; a <= x.nodes(); a++) {
            for (int b = -1; b <= x.nodes(); b++) {
                all.append(' ').append(x.gap(a, b));
            }
        }
        return all.toString();
    }

    /** Which nodes are muted or deaf: asking marks the others too, so the object is spent after it. */
    static String marksOf(SlotCluster x) {
        StringBuilder marks = new StringBuilder("could be muted, deafened:");
        for (int node = 0; node < x.nodes(); node++) {
            marks.append(' ').append(x.mute(node)).append(' ').append(x.deafen(node));
        }
        return marks.toString();
    }
}
