/** Promises 22 to 32: contributions, Shapley values, Banzhaf indices, samples, causes, capacities, policies. */
public final class BlameTest {
    private static void fraction(String name, int numerator, int denominator, int n, int d) {
        Check.due(name + ", numerator", numerator, n);
        Check.due(name + ", denominator", denominator, d);
    }

    private static void ranking(QueueBlame x, int... flows) {
        for (int rank = 0; rank < 6; rank++) Check.due("ranked " + rank, x.ranked(rank), flows[rank]);
    }

    /** Flows 0 and 1 together lose a packet of flow 1. */
    private static void pair() {
        QueueBlame x = Check.with(0, 0, 60, 0, 1, 60);
        Check.due("contribution to none", x.contribution(0, 0), 0);
        Check.due("contribution to flow 1", x.contribution(0, 2), 1);
        Check.due("contribution to all others", x.contribution(1, 61), 1);
        for (int flow = 0; flow < 6; flow++) {
            int n = flow < 2 ? 1 : 0;
            int d = flow < 2 ? 2 : 1;
            fraction("blame", x.blame(flow, 0), x.blame(flow, 1), n, d);
            fraction("blame for 1", x.blameFor(flow, 1, 0), x.blameFor(flow, 1, 1), n, d);
            fraction("blame for 0", x.blameFor(flow, 0, 0), x.blameFor(flow, 0, 1), 0, 1);
            fraction("index", x.index(flow, 0), x.index(flow, 1), n, d);
        }
        fraction("interaction", x.interaction(0, 1, 0), x.interaction(0, 1, 1), 1, 1);
        fraction("interaction", x.interaction(1, 0, 0), x.interaction(1, 0, 1), 1, 1);
        fraction("no interaction", x.interaction(0, 2, 0), x.interaction(0, 2, 1), 0, 1);
        ranking(x, 0, 1, 2, 3, 4, 5);
    }

    /** Flow 0 keeps the slow packet of flow 1 out, so its contribution to the delays is negative. */
    private static void negative() {
        QueueBlame x = Check.with(0, 0, 10, 0, 1, 100);
        x.setMeasure(2);
        Check.due("contribution", x.contribution(0, 2), -9);
        Check.due("contribution of the other", x.contribution(1, 0), 9);
        fraction("blame of 0", x.blame(0, 0), x.blame(0, 1), -9, 2);
        fraction("blame of 1", x.blame(1, 0), x.blame(1, 1), 9, 2);
        fraction("blame of 0 for 0", x.blameFor(0, 0, 0), x.blameFor(0, 0, 1), 0, 1);
        fraction("index of 0", x.index(0, 0), x.index(0, 1), -9, 2);
        fraction("index of 1", x.index(1, 0), x.index(1, 1), 9, 2);
        fraction("interaction", x.interaction(0, 1, 0), x.interaction(0, 1, 1), -9, 1);
        ranking(x, 1, 2, 3, 4, 5, 0);
        // By the document's arithmetic, done apart from this program, the first orders from the state 0 are
        // 2 4 1 5 3 0 and 3 4 2 5 0 1; flow 1 is before flow 0 in 40 of the first 100.
        Check.due("sampled 1", x.sampled(0, 1, 0), -9);
        Check.due("sampled 2", x.sampled(0, 2, 0), -9);
        Check.due("sampled 100", x.sampled(0, 100, 0), -360);
        Check.due("sampled 100 of flow 1", x.sampled(1, 100, 0), 360);
        Check.due("sampled from the greatest state", x.sampled(0, 10, Integer.MAX_VALUE), -45);
        Check.due("sampled without packets", x.sampled(5, 100, 7), 0);
    }

    /** Three flows, any two of which fit: Shapley and Banzhaf differ. */
    private static void three() {
        QueueBlame x = Check.with(0, 0, 60, 0, 1, 30, 0, 2, 30, 0, 3, 30);
        // v is 1 if flow 0 is there with two others, 2 with all three, otherwise 0.
        Check.due("worth", x.worth(15), 2);
        Check.due("worth", x.worth(7), 1);
        Check.due("worth", x.worth(14), 0);
        // Flow 0 is behind two others in 1/4 of the orders, behind three in 1/4: 1/4 + 2/4.
        fraction("blame of 0", x.blame(0, 0), x.blame(0, 1), 3, 4);
        // The three others share the rest of 2.
        for (int flow = 1; flow < 4; flow++) {
            fraction("blame of " + flow, x.blame(flow, 0), x.blame(flow, 1), 5, 12);
        }
        // Of 8 sets of the three others 3 give 1 and one gives 2.
        fraction("index of 0", x.index(0, 0), x.index(0, 1), 5, 8);
        // With flow 0: nothing before, 1 with one other, 1 with two others: (1 + 1 + 1) / 8.
        fraction("index of 1", x.index(1, 0), x.index(1, 1), 3, 8);
        fraction("interaction 0 1", x.interaction(0, 1, 0), x.interaction(0, 1, 1), 3, 4);
        fraction("interaction 1 2", x.interaction(1, 2, 0), x.interaction(1, 2, 1), 1, 4);
        x.setPriority(0, 0);
        ranking(x, 0, 1, 2, 3, 4, 5);
    }

    /** Each answer holds for the state at the call, whatever was asked before. */
    private static void afterChanges() {
        QueueBlame x = Check.with(0, 0, 60, 0, 1, 60);
        Check.due("interaction", x.interaction(0, 1, 0), 1);
        x.setMeasure(1);
        Check.due("interaction in bytes", x.interaction(0, 1, 0), 60);
        x.setCapacity(120);
        Check.due("no interaction", x.interaction(0, 1, 0), 0);
        x.record(0, 3, 1);
        Check.due("ranked", x.ranked(0), 0);
        x.erase(0);
        Check.due("ranked without flow 0", x.ranked(0), 0);
        x.setCapacity(60);
        Check.due("ranked by flows 1 and 3", x.ranked(0), 1);
        Check.due("sampled", x.sampled(3, 100, 0) + x.sampled(1, 100, 0), 100);
        x.setCapacity(61);
        Check.due("sampled without drops", x.sampled(3, 100, 0), 0);
        x.undo();
        Check.due("blame after undo", x.blame(3, 1), 2);
        Check.due("blame for another victim", x.blameFor(3, 1, 0), 0);
        Check.due("index behind it", x.index(3, 1), 2);
    }

    private static void wrongArguments() {
        QueueBlame x = Check.with(0, 0, 60, 0, 1, 60);
        Check.throwsIndex("contribution of 6", () -> x.contribution(6, 64));
        Check.throwsIndex("contribution of -1", () -> x.contribution(-1, 0));
        Check.throwsArgument("contribution to 64", () -> x.contribution(0, 64));
        Check.throwsArgument("contribution to -1", () -> x.contribution(0, -1));
        Check.throwsArgument("contribution to itself", () -> x.contribution(0, 1));
        Check.throwsArgument("contribution to itself", () -> x.contribution(5, 63));
        Check.throwsIndex("blame of 6", () -> x.blame(6, 2));
        Check.throwsIndex("blame of -1", () -> x.blame(-1, 0));
        Check.throwsArgument("blame part 2", () -> x.blame(0, 2));
        Check.throwsArgument("blame part -1", () -> x.blame(0, -1));
        Check.throwsIndex("blameFor flow 6", () -> x.blameFor(6, 0, 2));
        Check.throwsIndex("blameFor flow -1", () -> x.blameFor(-1, 0, 0));
        Check.throwsIndex("blameFor victim 6", () -> x.blameFor(0, 6, 2));
        Check.throwsIndex("blameFor victim -1", () -> x.blameFor(0, -1, 0));
        Check.throwsArgument("blameFor part 2", () -> x.blameFor(0, 0, 2));
        Check.throwsArgument("blameFor part -1", () -> x.blameFor(0, 1, -1));
        Check.throwsIndex("index of 6", () -> x.index(6, 2));
        Check.throwsIndex("index of -1", () -> x.index(-1, 0));
        Check.throwsArgument("index part 2", () -> x.index(0, 2));
        Check.throwsArgument("index part -1", () -> x.index(0, -1));
        Check.throwsIndex("interaction of 6", () -> x.interaction(6, 6, 0));
        Check.throwsIndex("interaction with 6", () -> x.interaction(0, 6, 2));
        Check.throwsIndex("interaction of -1", () -> x.interaction(-1, 0, 0));
        Check.throwsIndex("interaction with -1", () -> x.interaction(0, -1, 0));
        Check.throwsArgument("interaction with itself", () -> x.interaction(3, 3, 0));
        Check.throwsArgument("interaction part 2", () -> x.interaction(0, 1, 2));
        Check.throwsArgument("interaction part -1", () -> x.interaction(0, 1, -1));
        Check.throwsIndex("ranked 6", () -> x.ranked(6));
        Check.throwsIndex("ranked -1", () -> x.ranked(-1));
        Check.throwsIndex("sampled flow 6", () -> x.sampled(6, 0, -1));
        Check.throwsIndex("sampled flow -1", () -> x.sampled(-1, 1, 0));
        Check.throwsArgument("sampled 0 orders", () -> x.sampled(0, 0, 0));
        Check.throwsArgument("sampled 101 orders", () -> x.sampled(0, 101, 0));
        Check.throwsArgument("sampled from -1", () -> x.sampled(0, 1, -1));
        Check.throwsIndex("cause of 2", () -> x.cause(2));
        Check.throwsIndex("cause of -1", () -> x.cause(-1));
        Check.throwsIndex("suspects of 2", () -> x.suspects(2));
        Check.throwsIndex("suspects of -1", () -> x.suspects(-1));
        Check.throwsArgument("capacityFor(-1)", () -> x.capacityFor(-1));
        Check.throwsArgument("capacityFor of the least int", () -> x.capacityFor(Integer.MIN_VALUE));
        Check.due("only the two records were saved", x.undo(), 1);
    }

    private static void causes(String name, QueueBlame x, int packet, int cause, int suspects) {
        Check.due(name + ": cause", x.cause(packet), cause);
        Check.due(name + ": suspects", x.suspects(packet), suspects);
    }

    private static void causes() {
        causes("not dropped", Check.with(0, 0, 60, 0, 1, 60), 0, 0, 0);
        causes("one", Check.with(0, 0, 60, 0, 1, 60), 1, 1, 1);
        causes("one of two", Check.with(0, 0, 40, 0, 1, 40, 0, 2, 40), 2, 1, 3);
        causes("both", Check.with(0, 0, 50, 0, 1, 50, 0, 2, 60), 2, 3, 3);
        causes("all three", Check.with(0, 4, 30, 0, 3, 30, 0, 1, 30, 0, 0, 71), 3, 26, 26);
        causes("two of three", Check.with(0, 4, 30, 0, 3, 30, 0, 1, 30, 0, 0, 60), 3, 10, 26);
        // Flow 5 alone has a higher mask than flows 0 and 1 together, but fewer flows.
        causes("fewest flows", Check.with(0, 0, 20, 0, 1, 20, 0, 5, 40, 0, 2, 50), 3, 32, 32);
        causes("all five", Check.with(0, 1, 20, 0, 2, 20, 0, 3, 20, 0, 4, 20, 0, 5, 20, 0, 0, 100), 5, 62, 62);
        causes("its own flow", Check.with(0, 0, 60, 0, 0, 60), 1, -1, 0);
        QueueBlame small = Check.with(0, 0, 60, 0, 1, 10);
        small.setCapacity(50);
        causes("too large", small, 0, -1, 0);
        QueueBlame head = Check.with(0, 0, 60, 0, 1, 60);
        head.setPolicy(1);
        causes("dropped by a later one", head, 0, 2, 2);
    }

    private static void capacities() {
        Check.due("capacity for nothing", new QueueBlame().capacityFor(0), 1);
        QueueBlame x = Check.with(0, 0, 60, 0, 1, 60);
        Check.due("capacity for 0 drops", x.capacityFor(0), 120);
        Check.due("capacity for 1 drop", x.capacityFor(1), 60);
        Check.due("capacity for 2 drops", x.capacityFor(2), 1);
        Check.due("capacity for any drops", x.capacityFor(Integer.MAX_VALUE), 1);
        Check.due("the capacity stays", x.setCapacity(1), 100);
        // With 50 to 69 the first packet takes the room of both others.
        QueueBlame gap = Check.with(0, 0, 50, 0, 1, 20, 0, 2, 20);
        Check.due("capacity below the gap", gap.capacityFor(1), 40);
        QueueBlame early = Check.with(0, 0, 1, 0, 0, 1);
        early.setPolicy(4);
        early.setThreshold(0);
        early.setInterval(2);
        Check.due("an early drop has no capacity", early.capacityFor(0), -1);
        Check.due("an early drop allowed", early.capacityFor(1), 1);
        QueueBlame much = new QueueBlame();
        for (int k = 0; k < 11; k++) much.record(0, k % 6, 100);
        Check.due("more than 1000 bytes", much.capacityFor(0), -1);
        Check.due("just 1000 bytes", much.capacityFor(1), 1000);
        much.erase(10);
        much.record(0, 5, 1);
        Check.due("1001 bytes", much.capacityFor(0), -1);
        QueueBlame tiny = Check.with(0, 0, 1, 0, 1, 1, 0, 2, 1);
        Check.due("the next capacity", tiny.capacityFor(1), 2);
        Check.due("the one behind it", tiny.capacityFor(0), 3);
        // 4 * 30 <= 3 * capacity for the first packet, 4 * 10 <= 3 * (capacity - 30) for the second.
        QueueBlame threshold = Check.with(0, 0, 30, 0, 1, 10);
        threshold.setPolicy(3);
        threshold.setFactor(3);
        Check.due("dynamic threshold", threshold.capacityFor(0), 44);
        Check.due("dynamic threshold, 1 drop", threshold.capacityFor(1), 14);
    }

    private static void policies() {
        Check.due("best policy without packets", new QueueBlame().bestPolicy(), 0);
        QueueBlame x = Check.with(0, 0, 100, 0, 1, 50, 0, 2, 50);
        Check.due("fewest drops", x.bestPolicy(), 1);
        x.setPolicy(4);
        Check.due("fewest drops again", x.bestPolicy(), 1);
        x.setMeasure(1);
        Check.due("fewest bytes", x.bestPolicy(), 0);
        QueueBlame delays = Check.with(0, 0, 50, 0, 1, 50);
        delays.setMeasure(2);
        Check.due("equal delays", delays.bestPolicy(), 0);
        delays.setThreshold(0);
        delays.setInterval(2);
        Check.due("early drop delays least", delays.bestPolicy(), 4);
        delays.setFactor(1);
        Check.due("dynamic threshold delays least", delays.bestPolicy(), 3);
        Check.due("the policy stays", delays.setPolicy(1), 0);
        QueueBlame longest = Check.with(0, 0, 20, 0, 1, 40, 0, 1, 40, 0, 2, 30);
        Check.due("longest flow is not better than tail drop", longest.bestPolicy(), 0);
    }

    public static void main(String[] args) {
        pair();
        negative();
        three();
        afterChanges();
        wrongArguments();
        causes();
        capacities();
        policies();
        Check.end();
    }
}
