/** Promises 15 to 21: replay, fate, loadAt, peak, dropped, worth, worthFor, with every policy and scheduler. */
public final class ReplayTest {
    private static void fates(String name, QueueBlame x, int... fates) {
        for (int k = 0; k < fates.length; k++) Check.due(name + ": fate " + k, x.fate(k), fates[k]);
        Check.due(name + ": fate behind the last", x.fate(fates.length), -1);
    }

    private static void drops(String name, QueueBlame x, int... drops) {
        Check.due(name + ": replay", x.replay(63), drops.length);
        for (int k = 0; k < drops.length; k++) Check.due(name + ": drop " + k, x.dropped(k), drops[k]);
        Check.due(name + ": drop behind the last", x.dropped(drops.length), -1);
    }

    private static void tailDrop() {
        QueueBlame x = Check.with(0, 0, 60, 0, 1, 60, 0, 2, 40);
        drops("tail drop", x, 1);
        fates("tail drop", x, 5, -2, 9);
        Check.due("fate(-1)", x.fate(-1), -1);
        Check.due("dropped(-1)", x.dropped(-1), -1);
        Check.due("dropped at the greatest int", x.dropped(Integer.MAX_VALUE), -1);
        Check.due("loadAt(0)", x.loadAt(0), 90);
        Check.due("loadAt(5)", x.loadAt(5), 40);
        Check.due("loadAt(8)", x.loadAt(8), 10);
        Check.due("loadAt(9)", x.loadAt(9), 0);
        Check.due("loadAt(10)", x.loadAt(10), 0);
        Check.due("loadAt at the greatest int", x.loadAt(Integer.MAX_VALUE), 0);
        Check.due("loadAt(-1)", x.loadAt(-1), -1);
        Check.due("loadAt at the least int", x.loadAt(Integer.MIN_VALUE), -1);
        Check.due("peak", x.peak(), 90);
        Check.due("replay of flow 1", x.replay(2), 0);
        fates("flow 1", x, -3, 5, -3);
        Check.due("peak of flow 1", x.peak(), 50);
        Check.due("replay of no flow", x.replay(0), 0);
        fates("no flow", x, -3, -3, -3);
        Check.due("peak of no flow", x.peak(), 0);
        Check.due("loadAt of no flow", x.loadAt(0), 0);
        Check.throwsArgument("replay(64)", () -> x.replay(64));
        Check.throwsArgument("replay(-1)", () -> x.replay(-1));
        fates("still no flow", x, -3, -3, -3);
    }

    private static void ticks() {
        QueueBlame x = Check.with(0, 0, 15, 0, 1, 5, 0, 2, 1, 7, 3, 10, 20, 4, 11);
        drops("ticks", x);
        fates("ticks", x, 1, 1, 2, 7, 21);
        Check.due("loadAt(1)", x.loadAt(1), 1);
        Check.due("loadAt(2)", x.loadAt(2), 0);
        Check.due("loadAt(19)", x.loadAt(19), 0);
        Check.due("loadAt(20)", x.loadAt(20), 1);
        Check.due("peak", x.peak(), 11);
        QueueBlame slow = Check.with(500, 0, 100);
        slow.setRate(1);
        drops("slow", slow);
        fates("slow", slow, 599);
        Check.due("slow loadAt(499)", slow.loadAt(499), 0);
        Check.due("slow loadAt(500)", slow.loadAt(500), 99);
        Check.due("slow loadAt(598)", slow.loadAt(598), 1);
        Check.due("slow loadAt(599)", slow.loadAt(599), 0);
        QueueBlame partly = Check.with(0, 0, 5, 0, 1, 20, 1, 2, 10);
        drops("partly sent", partly);
        fates("partly sent", partly, 0, 2, 3);
        Check.due("partly sent: loadAt(0)", partly.loadAt(0), 15);
        Check.due("partly sent: loadAt(1)", partly.loadAt(1), 15);
        QueueBlame later = Check.with(5, 0, 50, 7, 1, 50);
        drops("later", later);
        fates("later", later, 9, 14);
        Check.due("later: loadAt(4)", later.loadAt(4), 0);
        Check.due("later: loadAt(6)", later.loadAt(6), 30);
        Check.due("later: loadAt(7)", later.loadAt(7), 70);
        QueueBlame within = Check.with(0, 0, 100, 0, 1, 10);
        within.setPolicy(1);
        drops("a load within a tick", within, 0);
        Check.due("a load within a tick is no peak", within.peak(), 0);
        QueueBlame spread = new QueueBlame();
        for (int k = 0; k < 40; k++) spread.record(10 * k, k % 6, 20 + k);
        drops("spread", spread);
        Check.due("spread: the last load", spread.loadAt(390), 49);
        Check.due("spread: the peak", spread.peak(), 49);
        Check.due("spread: the last fate", spread.fate(39), 395);
        QueueBlame empty = Check.with(0, 0, 10);
        drops("empty at once", empty);
        Check.due("empty at once: peak", empty.peak(), 0);
    }

    private static void tooLarge() {
        for (int policy = 0; policy < 5; policy++) {
            QueueBlame x = Check.with(0, 0, 30, 0, 1, 51, 0, 2, 20);
            x.setCapacity(50);
            x.setFactor(16);
            x.setPolicy(policy);
            drops("too large", x, 1);
            fates("too large", x, 2, -2, 4);
        }
    }

    private static void headDrop() {
        QueueBlame x = Check.with(0, 0, 50, 0, 1, 50, 1, 2, 30);
        x.setPolicy(1);
        drops("head drop", x, 1);
        fates("head drop", x, 4, -2, 7);
        QueueBlame begun = Check.with(0, 0, 100, 1, 1, 20);
        begun.setPolicy(1);
        drops("head drop, begun", begun, 1);
        QueueBlame both = Check.with(0, 0, 60, 0, 1, 40, 1, 2, 100);
        both.setPolicy(1);
        drops("head drop, then the arriving", both, 1, 2);
        fates("head drop, then the arriving", both, 5, -2, -2);
        QueueBlame several = Check.with(0, 0, 30, 0, 1, 30, 0, 2, 30, 0, 3, 70);
        several.setPolicy(1);
        drops("head drop, several", several, 0, 1);
        fates("head drop, several", several, -2, -2, 2, 9);
    }

    private static void longestFlow() {
        QueueBlame x = Check.with(0, 0, 30, 0, 0, 30, 0, 1, 40, 0, 2, 20, 0, 3, 40, 0, 4, 50);
        x.setPolicy(2);
        drops("longest flow", x, 1, 2, 5);
        fates("longest flow", x, 2, -2, -2, 4, 8, -2);
        QueueBlame begun = Check.with(0, 0, 90, 1, 1, 20, 1, 2, 10);
        begun.setPolicy(2);
        drops("longest flow, begun", begun, 1);
        fates("longest flow, begun", begun, 8, -2, 9);
        QueueBlame tie = Check.with(0, 1, 60, 0, 0, 60);
        tie.setPolicy(2);
        drops("longest flow, tie with the arriving", tie, 1);
        QueueBlame other = Check.with(0, 0, 60, 0, 1, 60);
        other.setPolicy(2);
        drops("longest flow, tie with a lower flow", other, 0);
    }

    private static void dynamicThreshold() {
        QueueBlame x = Check.with(0, 0, 50, 0, 0, 25, 0, 1, 50, 0, 2, 1);
        x.setPolicy(3);
        drops("dynamic threshold", x, 1, 3);
        QueueBlame one = Check.with(0, 0, 26, 0, 0, 25, 0, 1, 1);
        one.setPolicy(3);
        one.setFactor(1);
        drops("dynamic threshold, factor 1", one, 0);
        QueueBlame much = Check.with(0, 0, 80, 0, 0, 20, 0, 1, 20);
        much.setPolicy(3);
        much.setFactor(16);
        drops("dynamic threshold, factor 16", much, 1);
        QueueBlame full = Check.with(0, 0, 80, 0, 1, 30, 0, 2, 20);
        full.setPolicy(3);
        full.setFactor(16);
        drops("dynamic threshold, full", full, 1);
        // In tick 1 the bytes that remain of flow 0 are 40, the load is 40: 4 * 60 = 4 * 60.
        QueueBlame remaining = Check.with(0, 0, 50, 1, 0, 20, 1, 0, 1);
        remaining.setPolicy(3);
        drops("dynamic threshold, remaining bytes", remaining, 2);
    }

    private static void earlyDrop() {
        QueueBlame x = Check.with(0, 0, 50, 0, 1, 10, 0, 1, 10, 0, 1, 10, 0, 1, 10, 0, 1, 30, 0, 1, 10, 0, 1, 10);
        x.setPolicy(4);
        drops("early drop", x, 3, 5, 7);
        drops("early drop once more", x, 3, 5, 7);
        x.setThreshold(51);
        drops("early drop, threshold 51", x, 4, 5);
        x.setThreshold(0);
        x.setInterval(2);
        drops("early drop, interval 2", x, 1, 3, 5, 7);
    }

    private static void schedulers() {
        QueueBlame x = Check.with(0, 0, 10, 0, 2, 10, 0, 1, 10, 0, 1, 10);
        drops("first in, first out", x);
        fates("first in, first out", x, 0, 1, 2, 3);
        x.setScheduler(1);
        x.setPriority(1, 2);
        x.setPriority(2, 2);
        drops("priorities", x);
        fates("priorities", x, 3, 2, 0, 1);
        QueueBlame begun = Check.with(0, 0, 20, 1, 1, 10, 1, 0, 10);
        begun.setScheduler(1);
        begun.setPriority(1, 0);
        drops("priorities, begun", begun);
        fates("priorities, begun", begun, 1, 2, 3);
        QueueBlame all = Check.with(0, 0, 10, 0, 1, 10, 0, 2, 10, 0, 3, 10, 0, 4, 10, 0, 5, 10);
        all.setScheduler(1);
        int[] priorities = {4, 9, 0, 4, 8, 3};
        for (int flow = 0; flow < 6; flow++) all.setPriority(flow, priorities[flow]);
        drops("six priorities", all);
        fates("six priorities", all, 2, 5, 0, 3, 4, 1);
        QueueBlame first = Check.with(0, 5, 10, 0, 4, 10, 0, 0, 10);
        first.setScheduler(2);
        drops("round robin begins with flow 0", first);
        fates("round robin begins with flow 0", first, 2, 1, 0);
        QueueBlame round = Check.with(0, 0, 10, 0, 0, 10, 0, 3, 10, 0, 1, 10, 0, 3, 10);
        round.setScheduler(2);
        drops("round robin", round);
        fates("round robin", round, 0, 3, 2, 1, 4);
        drops("round robin once more", round);
        fates("round robin once more", round, 0, 3, 2, 1, 4);
        QueueBlame later = Check.with(0, 2, 10, 5, 1, 10, 5, 3, 10, 5, 2, 10);
        later.setScheduler(2);
        drops("round robin, behind the last", later);
        fates("round robin, behind the last", later, 0, 6, 5, 7);
    }

    private static void latestStays() {
        QueueBlame x = Check.with(0, 0, 60, 0, 1, 60, 0, 2, 40);
        x.replay(63);
        x.setRate(1);
        x.erase(0);
        x.record(0, 5, 1);
        x.record(0, 5, 1);
        x.undo();
        x.setCapacity(1);
        x.worth(1);
        x.worthFor(1, 1);
        x.blame(0, 0);
        x.cause(0);
        x.suspects(0);
        x.capacityFor(0);
        x.bestPolicy();
        x.sampled(0, 2, 0);
        x.checksum();
        fates("the latest replay stays", x, 5, -2, 9);
        Check.due("the latest loadAt(5)", x.loadAt(5), 40);
        Check.due("the latest peak", x.peak(), 90);
        Check.due("the latest drop", x.dropped(0), 1);
    }

    private static void measures() {
        QueueBlame x = Check.with(0, 0, 60, 0, 1, 60, 1, 2, 40, 1, 1, 10);
        Check.due("dropped packets", x.worth(63), 1);
        Check.due("of flow 0", x.worthFor(63, 0), 0);
        Check.due("of flow 1", x.worthFor(63, 1), 1);
        x.setMeasure(1);
        Check.due("dropped bytes", x.worth(63), 60);
        Check.due("bytes of flow 1", x.worthFor(63, 1), 60);
        Check.due("bytes of flow 2", x.worthFor(63, 2), 0);
        x.setMeasure(2);
        // Finishes: 5, dropped, 9 and 10, with the times 0, 0, 1 and 1.
        Check.due("delays", x.worth(63), 5 + 8 + 9);
        Check.due("delays of flow 1", x.worthFor(63, 1), 9);
        Check.due("delays of flow 1 alone", x.worth(2), 5 + 5);
        Check.due("delays without flow 1", x.worthFor(61, 1), 0);
        Check.due("worth of no flow", x.worth(0), 0);
        Check.throwsArgument("worth(64)", () -> x.worth(64));
        Check.throwsArgument("worth(-1)", () -> x.worth(-1));
        Check.throwsIndex("worthFor victim 6", () -> x.worthFor(0, 6));
        Check.throwsIndex("worthFor victim -1 and set 64", () -> x.worthFor(64, -1));
        Check.throwsArgument("worthFor set 64", () -> x.worthFor(64, 0));
        Check.throwsArgument("worthFor set -1", () -> x.worthFor(-1, 5));
        Check.due("no replay by all this", x.peak(), -1);
    }

    public static void main(String[] args) {
        tailDrop();
        ticks();
        tooLarge();
        headDrop();
        longestFlow();
        dynamicThreshold();
        earlyDrop();
        schedulers();
        latestStays();
        measures();
        Check.end();
    }
}
