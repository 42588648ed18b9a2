/** All that can be seen of an analyser, as one text. Looking uses the object up (some 400 calls). */
public final class Sight {
    private final QueueBlame x;
    private final StringBuilder seen = new StringBuilder();

    private Sight(QueueBlame x) {
        this.x = x;
    }

    public static String of(QueueBlame x) {
        Sight sight = new Sight(x);
        sight.recording();
        sight.latestReplay();
        // A run would push the oldest saved state out, so it comes behind them.
        sight.savedStates();
        sight.text();
        return sight.seen.toString();
    }

    /** Replays with a set of flows and tells the fates of all packets. */
    public static String fates(QueueBlame x, int flows) {
        x.replay(flows);
        StringBuilder fates = new StringBuilder();
        for (int p = 0; p < x.packets(); p++) fates.append(p == 0 ? "" : " ").append(x.fate(p));
        return fates.toString();
    }

    /** Replays with all flows and tells the drops in their order. */
    public static String drops(QueueBlame x) {
        int count = x.replay(63);
        StringBuilder drops = new StringBuilder();
        for (int k = 0; k < count; k++) drops.append(k == 0 ? "" : " ").append(x.dropped(k));
        return drops.toString();
    }

    private void note(long answer) {
        seen.append(answer).append(' ');
    }

    private void recording() {
        note(x.packets());
        for (int p = 0; p < x.packets(); p++) {
            for (int what = 0; what < 3; what++) note(x.packet(p, what));
        }
        note(x.checksum());
    }

    private void latestReplay() {
        note(x.peak());
        for (int p = 0; p <= 40; p++) note(x.fate(p));
        for (int k = 0; k <= 40; k++) note(x.dropped(k));
        for (int tick = 0; tick < 30; tick++) note(x.loadAt(tick));
    }

    private void savedStates() {
        try {
            // One more than can be saved, so that a program that never refuses comes to an end too.
            for (int k = 0; k <= 8; k++) {
                note(x.undo());
                note(x.checksum());
            }
        } catch (IllegalStateException e) {
            seen.append("none saved ");
        }
    }

    private void text() {
        note(x.fault());
        if (x.fault() == QueueBlame.NONE) {
            note(x.run());
            note(x.checksum());
        }
        note(x.clearText());
    }
}
