/** The sentences under "MEASURES", "CAUSES", "RANDOM ORDERS" and of the promises 20 to 32 that name a boundary case. */
public final class BlameSentences {
    private interface OfFlow {
        int of(QueueBlame x, int flow);
    }

    private interface OfSet {
        int of(QueueBlame x, int flows);
    }

    private static final int[] WRONG_FLOWS = {-1, 6, 31, 32, Integer.MIN_VALUE, Integer.MAX_VALUE};
    private static final int[] WRONG_SETS = {-1, 64, Integer.MIN_VALUE, Integer.MAX_VALUE};
    private static final int[] WRONG_PARTS = {-1, 2, Integer.MIN_VALUE, Integer.MAX_VALUE};

    private final Sentences doc;

    private BlameSentences(Sentences doc) {
        this.doc = doc;
    }

    public static void test(Sentences doc) {
        BlameSentences sentences = new BlameSentences(doc);
        doc.section("MEASURES");
        sentences.measures();
        sentences.values();
        doc.section("CAUSES");
        sentences.causes();
        doc.section("RANDOM ORDERS");
        sentences.orders();
        sentences.worth();
        sentences.contribution();
        sentences.blame();
        sentences.blameFor();
        sentences.index();
        sentences.interaction();
        sentences.ranked();
        sentences.sampled();
        sentences.cause();
        sentences.suspects();
        sentences.capacityFor();
        sentences.bestPolicy();
    }

    private static QueueBlame measured(int measure, int... packets) {
        QueueBlame x = Check.with(packets);
        x.setMeasure(measure);
        return x;
    }

    /** Six flows whose contributions differ much, some below 0. */
    private static QueueBlame crowd(int measure) {
        QueueBlame x = measured(measure, 0, 3, 40, 0, 1, 35, 0, 5, 30, 1, 0, 20, 1, 2, 50, 2, 4, 10, 3, 1, 60, 4, 5, 25,
            6, 0, 90, 7, 3, 15, 9, 2, 33);
        x.setPolicy(1);
        x.setRate(7);
        return x;
    }

    private static int[] worths(QueueBlame x) {
        int[] worths = new int[64];
        for (int set = 0; set < 64; set++) worths[set] = x.worth(set);
        return worths;
    }

    private static void fraction(String what, int numerator, int denominator, long n, long d) {
        Check.due(what + ": numerator", numerator, n);
        Check.due(what + ": denominator", denominator, d);
    }

    /** The mean of so many numbers with this sum, in lowest terms. */
    private static void mean(String what, int numerator, int denominator, long sum, int count) {
        long divisor = count;
        while (sum % divisor != 0 || count % divisor != 0) divisor--;
        fraction(what, numerator, denominator, sum / divisor, count / divisor);
    }

    private static void flowsRefused(QueueBlame x, OfFlow call) {
        for (int flow : WRONG_FLOWS) Check.throwsIndex("flow " + flow, () -> call.of(x, flow));
    }

    private static void flowsTaken(QueueBlame x, OfFlow call, int... due) {
        for (int flow = 0; flow < 6; flow++) Check.due("flow " + flow, call.of(x, flow), due[flow]);
    }

    private static void setsRefused(QueueBlame x, OfSet call) {
        for (int set : WRONG_SETS) Check.throwsArgument("set " + set, () -> call.of(x, set));
    }

    private static void partsRefused(QueueBlame x, OfSet call) {
        for (int part : WRONG_PARTS) Check.throwsArgument("part " + part, () -> call.of(x, part));
    }

    private void measures() {
        doc.says("A measure gives a number for each replay, v(S) for the replay with the set of flows S: 0 the number of "
            + "dropped packets, 1 the sum of the sizes of the dropped packets, 2 the sum, over all packets that were not "
            + "dropped, of (finish minus time).", () -> {
            int[] packets = {0, 0, 60, 0, 1, 60, 1, 2, 40, 1, 1, 10, 300, 3, 10};
            int[] due = {1, 60, 5 + 8 + 9 + 0};
            for (int measure = 0; measure < 3; measure++) {
                QueueBlame x = measured(measure, packets);
                Check.due("measure " + measure, x.worth(63), due[measure]);
                Check.due("no flow", x.worth(0), 0);
                Check.due("no packets", measured(measure).worth(63), 0);
                x.setCapacity(9);
                Check.due("all are dropped", x.worth(63), new int[] {5, 180, 0}[measure]);
            }
            Check.due("a finish in the time's tick", measured(2, 500, 0, 10).worth(1), 0);
            Check.due("a finish one tick later", measured(2, 500, 0, 11).worth(1), 1);
        });
        doc.says("The measure is 0 at first.", () -> {
            Check.due("dropped packets", Check.with(0, 0, 60, 0, 1, 60).worth(63), 1);
            Check.due("previous measure", new QueueBlame().setMeasure(2), 0);
        });
        doc.says("With a victim flow, only the packets of this flow are counted.", () -> {
            int[][] due = {{0, 1, 0, 0}, {0, 60, 0, 0}, {5, 9, 8, 0}};
            for (int measure = 0; measure < 3; measure++) {
                QueueBlame x = measured(measure, 0, 0, 60, 0, 1, 60, 1, 2, 40, 1, 1, 10, 300, 3, 10);
                for (int victim = 0; victim < 4; victim++) {
                    Check.due("victim " + victim, x.worthFor(63, victim), due[measure][victim]);
                }
                Check.due("a victim without packets", x.worthFor(63, 5), 0);
                Check.due("a victim that is left out", x.worthFor(61, 1), 0);
            }
            QueueBlame most = new QueueBlame();
            for (int k = 0; k < 40; k++) most.record(k, k % 6, 2);
            most.setCapacity(1);
            for (int victim = 0; victim < 6; victim++) {
                Check.due("of 40 packets", most.worthFor(63, victim), victim < 4 ? 7 : 6);
            }
        });
        doc.says("The contribution of a flow to a set S without it is v(S with the flow) minus v(S).", () -> {
            QueueBlame x = crowd(2);
            int[] v = worths(x);
            for (int flow = 0; flow < 6; flow++) {
                for (int set = 0; set < 64; set++) {
                    if ((set & 1 << flow) == 0) {
                        Check.due("flow " + flow + " to " + set, x.contribution(flow, set), v[set + (1 << flow)] - v[set]);
                    }
                }
            }
        });
    }

    private static long sumOverOrders(int[] v, int flow, int before, int orders) {
        long sum = 0;
        int left = 6 - Integer.bitCount(before);
        for (int next = 0; next < 6; next++) {
            if ((before & 1 << next) != 0) continue;
            int set = before | 1 << next;
            sum += next == flow ? (long) (orders / left) * (v[set] - v[before]) : sumOverOrders(v, flow, set, orders / left);
        }
        return sum;
    }

    private void values() {
        doc.says("The blame of a flow is its Shapley value: the mean of its contributions to the sets of the flows before "
            + "it, over all 720 orders of the six flows.", () -> {
            for (int measure = 0; measure < 3; measure++) {
                QueueBlame x = crowd(measure);
                int[] v = worths(x);
                for (int flow = 0; flow < 6; flow++) {
                    mean("blame " + flow, x.blame(flow, 0), x.blame(flow, 1), sumOverOrders(v, flow, 0, 720), 720);
                }
            }
        });
        doc.says("Its index is its Banzhaf index: the mean of its contributions to all 32 sets of the other flows.", () -> {
            for (int measure = 0; measure < 3; measure++) {
                QueueBlame x = crowd(measure);
                int[] v = worths(x);
                for (int flow = 0; flow < 6; flow++) {
                    long sum = 0;
                    for (int set = 0; set < 64; set++) sum += (set & 1 << flow) != 0 ? v[set] : -v[set];
                    mean("index " + flow, x.index(flow, 0), x.index(flow, 1), sum, 32);
                }
            }
        });
        doc.says("The interaction of two different flows is the mean, over all 16 sets S of the other four, of v(S with "
            + "both) - v(S with the first) - v(S with the second) + v(S).", () -> {
            for (int measure = 0; measure < 3; measure++) {
                QueueBlame x = crowd(measure);
                int[] v = worths(x);
                for (int pair = 0; pair < 36; pair++) {
                    int one = pair / 6;
                    int other = pair % 6;
                    if (one == other) continue;
                    long sum = 0;
                    for (int set = 0; set < 64; set++) sum += (set >> one & 1) == (set >> other & 1) ? v[set] : -v[set];
                    mean("interaction " + one + " " + other, x.interaction(one, other, 0), x.interaction(one, other, 1),
                        sum, 16);
                }
            }
        });
        doc.says("Fractions are in lowest terms with a denominator above 0; 0 is 0 / 1.", () -> {
            QueueBlame none = new QueueBlame();
            for (int flow = 0; flow < 6; flow++) {
                fraction("blame 0", none.blame(flow, 0), none.blame(flow, 1), 0, 1);
                fraction("blame for 0", none.blameFor(flow, 0, 0), none.blameFor(flow, 0, 1), 0, 1);
                fraction("index 0", none.index(flow, 0), none.index(flow, 1), 0, 1);
            }
            fraction("interaction 0", none.interaction(0, 1, 0), none.interaction(0, 1, 1), 0, 1);
            QueueBlame below = measured(2, 0, 0, 10, 0, 1, 100);
            fraction("a blame below 0", below.blame(0, 0), below.blame(0, 1), -9, 2);
            fraction("an index below 0", below.index(0, 0), below.index(0, 1), -9, 2);
            fraction("an interaction below 0", below.interaction(0, 1, 0), below.interaction(0, 1, 1), -9, 1);
            QueueBlame whole = measured(1, 0, 0, 60, 0, 1, 60);
            fraction("a whole blame", whole.blame(0, 0), whole.blame(0, 1), 30, 1);
            fraction("a whole index", whole.index(1, 0), whole.index(1, 1), 30, 1);
        });
    }

    private void causes() {
        doc.says("A cause is a set of flows without the flow of the packet such that the packet is not dropped in the "
            + "replay with all flows but those of the set.", () -> {
            Check.due("another flow", Check.with(0, 0, 60, 0, 1, 60).cause(1), 1);
            Check.due("its own flow is none", Check.with(0, 0, 60, 0, 0, 60).cause(1), -1);
            Check.due("its own flow is none", Check.with(0, 0, 60, 0, 1, 40, 0, 0, 1, 0, 0, 60).cause(3), -1);
            Check.due("another flow beside its own", Check.with(0, 0, 50, 0, 1, 40, 0, 0, 50).cause(2), 2);
            QueueBlame later = Check.with(0, 0, 60, 0, 5, 60);
            later.setPolicy(1);
            Check.due("a later packet", later.cause(0), 32);
        });
        doc.says("The smallest cause is the one with the fewest flows, of several the one with the lowest bit mask.", () -> {
            Check.due("one of two", Check.with(0, 4, 40, 0, 2, 40, 0, 0, 40).cause(2), 4);
            Check.due("fewer, although higher", Check.with(0, 0, 20, 0, 1, 20, 0, 5, 40, 0, 2, 50).cause(3), 32);
            Check.due("two of three", Check.with(0, 4, 30, 0, 3, 30, 0, 1, 30, 0, 0, 60).cause(3), 10);
            Check.due("two of four", Check.with(0, 5, 25, 0, 4, 25, 0, 3, 25, 0, 2, 25, 0, 0, 50).cause(4), 12);
            Check.due("five", Check.with(0, 1, 20, 0, 2, 20, 0, 3, 20, 0, 4, 20, 0, 5, 20, 0, 0, 100).cause(5), 62);
        });
    }

    /** Where b stands behind a in an order, b contributes 1 to the set before it, otherwise 0. */
    private static void order(String what, int[] order, int orders, int start) {
        int[] place = new int[6];
        for (int k = 0; k < 6; k++) place[order[k]] = k;
        for (int a = 0; a < 6; a++) {
            for (int b = 0; b < 6; b++) {
                if (a == b) continue;
                QueueBlame x = Check.with(0, a, 60, 0, b, 60);
                int before = orders == 1 ? 0 : x.sampled(b, orders - 1, start);
                Check.due(what + ": " + a + " before " + b, x.sampled(b, orders, start) - before,
                    place[a] < place[b] ? 1 : 0);
            }
        }
    }

    private void orders() {
        // The orders were worked out by the document's arithmetic apart from this program.
        doc.says("A random order of the flows is made like this: the order is 0, 1, 2, 3, 4, 5 at first; for k = 5, 4, 3, "
            + "2, 1, the state x becomes (1103515245 * x + 12345) modulo 2^31, and the flows at the positions k and "
            + "(x / 65536, rounded down) modulo (k + 1) change places.", () -> {
            order("from 0", new int[] {2, 4, 1, 5, 3, 0}, 1, 0);
            order("from 1", new int[] {0, 5, 4, 1, 3, 2}, 1, 1);
            order("from 12345", new int[] {2, 4, 5, 1, 3, 0}, 1, 12345);
            order("from the greatest int", new int[] {3, 1, 0, 2, 4, 5}, 1, Integer.MAX_VALUE);
        });
        doc.says("The state goes on from one order to the next.", () -> {
            order("the second from 0", new int[] {3, 4, 2, 5, 0, 1}, 2, 0);
            order("the third from 0", new int[] {0, 1, 4, 5, 2, 3}, 3, 0);
            order("the 100th from 0", new int[] {2, 3, 5, 0, 4, 1}, 100, 0);
            order("the 100th from the greatest int", new int[] {2, 3, 1, 0, 4, 5}, 100, Integer.MAX_VALUE);
        });
    }

    private void worth() {
        doc.section("Promise 20");
        doc.says("(The latest replay does not change by this and by all following methods.)", () -> {
            QueueBlame x = Check.with(0, 0, 60, 0, 1, 60, 0, 2, 30);
            x.setCapacity(90);
            x.replay(59);
            Check.write(x, "rate 1;");
            long sum = x.worth(0) + x.worth(63) + x.worthFor(2, 1) + x.contribution(0, 2) + x.blame(0, 0)
                + x.blameFor(0, 1, 1) + x.index(1, 0) + x.interaction(0, 1, 0) + x.ranked(0) + x.sampled(0, 3, 3)
                + x.cause(1) + x.suspects(1) + x.capacityFor(0) + x.bestPolicy() + x.fault() + x.run() + x.undo()
                + x.clearText() + x.checksum();
            Check.due("something was answered", sum == 0 ? 0 : 1, 1);
            Check.due("finish", x.fate(0), 5);
            Check.due("dropped", x.fate(1), -2);
            Check.due("left out", x.fate(2), -3);
            Check.due("load", x.loadAt(3), 20);
            Check.due("peak", x.peak(), 50);
            Check.due("drop", x.dropped(0), 1);
            Check.due("no more drops", x.dropped(1), -1);
        });
        doc.says("- `flows`: a set of flows, as a bit mask", () -> {
            QueueBlame x = measured(1, 0, 0, 1, 0, 1, 2, 0, 2, 4, 0, 3, 8, 0, 4, 16, 0, 5, 32);
            x.setCapacity(1);
            x.erase(0);
            for (int set = 0; set < 64; set++) Check.due("set " + set, x.worth(set), set & 62);
        });
        doc.says("Throws `IllegalArgumentException` if flows is not 0 to 63",
            () -> setsRefused(Check.with(0, 0, 1), QueueBlame::worth));
        doc.section("Promise 21");
        doc.says("- `flows`: a set of flows, as a bit mask", () -> {
            QueueBlame x = measured(1, 0, 0, 2, 0, 1, 3, 0, 5, 4);
            x.setCapacity(1);
            for (int set = 0; set < 64; set++) {
                Check.due("set " + set, x.worthFor(set, 0), (set & 1) * 2);
                Check.due("set " + set, x.worthFor(set, 5), (set >> 5) * 4);
            }
        });
        doc.says("- `victim`: the victim flow, 0 to 5", () -> {
            QueueBlame x = measured(1, 0, 0, 2, 0, 1, 3, 0, 2, 4, 0, 3, 5, 0, 4, 6, 0, 5, 7);
            x.setCapacity(1);
            flowsTaken(x, (y, victim) -> y.worthFor(63, victim), 2, 3, 4, 5, 6, 7);
        });
        doc.says("Throws `IndexOutOfBoundsException` if there is no such victim flow",
            () -> flowsRefused(Check.with(0, 0, 1), (x, victim) -> x.worthFor(63, victim)));
        doc.says("Throws `IllegalArgumentException` if flows is not 0 to 63",
            () -> setsRefused(Check.with(0, 0, 1), (x, set) -> x.worthFor(set, 0)));
    }

    private void contribution() {
        doc.section("Promise 22");
        doc.says("- `flow`: a flow, 0 to 5", () -> {
            QueueBlame x = measured(1, 0, 0, 2, 0, 1, 3, 0, 2, 4, 0, 3, 5, 0, 4, 6, 0, 5, 7);
            x.setCapacity(1);
            flowsTaken(x, (y, flow) -> y.contribution(flow, 0), 2, 3, 4, 5, 6, 7);
        });
        doc.says("- `flows`: a set of flows, as a bit mask", () -> {
            QueueBlame x = Check.with(0, 0, 60, 0, 1, 60, 0, 5, 60);
            Check.due("none", x.contribution(0, 0), 0);
            Check.due("flow 1", x.contribution(0, 2), 1);
            Check.due("flow 2", x.contribution(0, 4), 0);
            Check.due("flow 5", x.contribution(0, 32), 1);
            Check.due("all others of 5", x.contribution(5, 31), 1);
            Check.due("all others of 0", x.contribution(0, 62), 1);
        });
        doc.says("Throws `IndexOutOfBoundsException` if there is no such flow",
            () -> flowsRefused(Check.with(0, 0, 1), (x, flow) -> x.contribution(flow, 0)));
        doc.says("Throws `IllegalArgumentException` if flows is not 0 to 63, or contains the flow", () -> {
            QueueBlame x = Check.with(0, 0, 1);
            setsRefused(x, (y, set) -> y.contribution(0, set));
            for (int flow = 0; flow < 6; flow++) {
                int f = flow;
                Check.throwsArgument("itself alone", () -> x.contribution(f, 1 << f));
                Check.throwsArgument("itself with all", () -> x.contribution(f, 63));
                Check.due("all others", x.contribution(flow, 63 - (1 << flow)), 0);
            }
        });
    }

    private void blame() {
        doc.section("Promise 23");
        doc.says("- `flow`: a flow, 0 to 5", () -> {
            QueueBlame x = measured(1, 0, 0, 2, 0, 1, 3, 0, 2, 4, 0, 3, 5, 0, 4, 6, 0, 5, 7);
            x.setCapacity(1);
            flowsTaken(x, (y, flow) -> y.blame(flow, 0), 2, 3, 4, 5, 6, 7);
        });
        doc.says("- `part`: 0 for the numerator, 1 for the denominator", () -> {
            QueueBlame x = Check.with(0, 0, 60, 0, 1, 30, 0, 2, 30, 0, 3, 30);
            fraction("blame of 0", x.blame(0, 0), x.blame(0, 1), 3, 4);
            fraction("blame of 1", x.blame(1, 0), x.blame(1, 1), 5, 12);
        });
        doc.says("Throws `IndexOutOfBoundsException` if there is no such flow",
            () -> flowsRefused(Check.with(0, 0, 1), (x, flow) -> x.blame(flow, 0)));
        doc.says("Throws `IllegalArgumentException` if part is not 0 or 1",
            () -> partsRefused(Check.with(0, 0, 1), (x, part) -> x.blame(0, part)));
    }

    private void blameFor() {
        doc.section("Promise 24");
        doc.says("Returns the blame of a flow for what happens to a victim flow (the measure counts only packets of the "
            + "victim flow).", () -> {
            for (int measure = 0; measure < 3; measure++) {
                for (int victim = 0; victim < 6; victim++) {
                    QueueBlame x = crowd(measure);
                    int[] v = new int[64];
                    for (int set = 0; set < 64; set++) v[set] = x.worthFor(set, victim);
                    for (int flow = 0; flow < 6; flow++) {
                        mean("blame " + flow + " for " + victim, x.blameFor(flow, victim, 0), x.blameFor(flow, victim, 1),
                            sumOverOrders(v, flow, 0, 720), 720);
                    }
                }
            }
        });
        doc.says("- `flow`: a flow, 0 to 5", () -> {
            QueueBlame x = measured(1, 0, 0, 10, 0, 1, 10, 0, 2, 10, 0, 3, 10, 0, 4, 10, 0, 5, 96);
            x.setCapacity(96);
            // Flow 5 loses its packet unless it is the first; another flow is to blame if just flow 5 is before it.
            flowsTaken(x, (y, flow) -> y.blameFor(flow, 5, 0), 16, 16, 16, 16, 16, 80);
            flowsTaken(x, (y, flow) -> y.blameFor(flow, 5, 1), 5, 5, 5, 5, 5, 1);
        });
        doc.says("- `victim`: the victim flow, 0 to 5, possibly the same", () -> {
            QueueBlame x = measured(1, 0, 0, 2, 0, 1, 3, 0, 2, 4, 0, 3, 5, 0, 4, 6, 0, 5, 7);
            x.setCapacity(1);
            flowsTaken(x, (y, flow) -> y.blameFor(flow, flow, 0), 2, 3, 4, 5, 6, 7);
            flowsTaken(x, (y, victim) -> y.blameFor(0, victim, 0), 2, 0, 0, 0, 0, 0);
            flowsTaken(x, (y, victim) -> y.blameFor(5, victim, 0), 0, 0, 0, 0, 0, 7);
        });
        doc.says("- `part`: 0 for the numerator, 1 for the denominator", () -> {
            QueueBlame x = Check.with(0, 0, 60, 0, 1, 60);
            fraction("blame for 1", x.blameFor(0, 1, 0), x.blameFor(0, 1, 1), 1, 2);
            fraction("blame for 0", x.blameFor(1, 0, 0), x.blameFor(1, 0, 1), 0, 1);
        });
        doc.says("Throws `IndexOutOfBoundsException` if there is no such flow or victim flow", () -> {
            flowsRefused(Check.with(0, 0, 1), (x, flow) -> x.blameFor(flow, 0, 0));
            flowsRefused(Check.with(0, 0, 1), (x, victim) -> x.blameFor(0, victim, 0));
            flowsRefused(Check.with(0, 0, 1), (x, both) -> x.blameFor(both, both, 0));
        });
        doc.says("Throws `IllegalArgumentException` if part is not 0 or 1",
            () -> partsRefused(Check.with(0, 0, 1), (x, part) -> x.blameFor(0, 1, part)));
    }

    private void index() {
        doc.section("Promise 25");
        doc.says("- `flow`: a flow, 0 to 5", () -> {
            QueueBlame x = measured(1, 0, 0, 2, 0, 1, 3, 0, 2, 4, 0, 3, 5, 0, 4, 6, 0, 5, 7);
            x.setCapacity(1);
            flowsTaken(x, (y, flow) -> y.index(flow, 0), 2, 3, 4, 5, 6, 7);
        });
        doc.says("- `part`: 0 for the numerator, 1 for the denominator", () -> {
            QueueBlame x = Check.with(0, 0, 60, 0, 1, 30, 0, 2, 30, 0, 3, 30);
            fraction("index of 0", x.index(0, 0), x.index(0, 1), 5, 8);
            fraction("index of 1", x.index(1, 0), x.index(1, 1), 3, 8);
        });
        doc.says("Throws `IndexOutOfBoundsException` if there is no such flow",
            () -> flowsRefused(Check.with(0, 0, 1), (x, flow) -> x.index(flow, 0)));
        doc.says("Throws `IllegalArgumentException` if part is not 0 or 1",
            () -> partsRefused(Check.with(0, 0, 1), (x, part) -> x.index(0, part)));
    }

    private void interaction() {
        doc.section("Promise 26");
        doc.says("- `one`: a flow, 0 to 5", () -> {
            QueueBlame x = Check.with(0, 0, 60, 0, 5, 60);
            Check.due("0 with 5", x.interaction(0, 5, 0), 1);
            for (int one = 0; one < 5; one++) Check.due(one + " with 5", x.interaction(one, 5, 0), one == 0 ? 1 : 0);
            for (int one = 1; one < 6; one++) Check.due(one + " with 0", x.interaction(one, 0, 0), one == 5 ? 1 : 0);
        });
        doc.says("- `other`: a flow, 0 to 5", () -> {
            QueueBlame x = Check.with(0, 0, 60, 0, 5, 60);
            for (int other = 0; other < 5; other++) Check.due("5 with " + other, x.interaction(5, other, 0), other == 0 ? 1 : 0);
            for (int other = 1; other < 6; other++) Check.due("0 with " + other, x.interaction(0, other, 0), other == 5 ? 1 : 0);
        });
        doc.says("- `part`: 0 for the numerator, 1 for the denominator", () -> {
            QueueBlame x = Check.with(0, 0, 60, 0, 1, 30, 0, 2, 30, 0, 3, 30);
            fraction("0 with 1", x.interaction(0, 1, 0), x.interaction(0, 1, 1), 3, 4);
            fraction("2 with 1", x.interaction(2, 1, 0), x.interaction(2, 1, 1), 1, 4);
        });
        doc.says("Throws `IndexOutOfBoundsException` if one of the flows does not exist", () -> {
            flowsRefused(Check.with(0, 0, 1), (x, flow) -> x.interaction(flow, 0, 0));
            flowsRefused(Check.with(0, 0, 1), (x, flow) -> x.interaction(0, flow, 0));
            flowsRefused(Check.with(0, 0, 1), (x, flow) -> x.interaction(flow, flow, 0));
        });
        doc.says("Throws `IllegalArgumentException` if both flows are the same, or part is not 0 or 1", () -> {
            QueueBlame x = Check.with(0, 0, 1);
            for (int flow = 0; flow < 6; flow++) {
                int f = flow;
                Check.throwsArgument("both are " + f, () -> x.interaction(f, f, 0));
            }
            partsRefused(x, (y, part) -> y.interaction(0, 1, part));
        });
    }

    private void ranked() {
        doc.section("Promise 27");
        doc.says("Returns a flow in the ranking by blame: the greatest blame first, for equal blames the lowest flow "
            + "first.", () -> {
            flowsTaken(new QueueBlame(), QueueBlame::ranked, 0, 1, 2, 3, 4, 5);
            QueueBlame rising = measured(1, 0, 0, 2, 0, 1, 3, 0, 2, 4, 0, 3, 5, 0, 4, 6, 0, 5, 7);
            rising.setCapacity(1);
            flowsTaken(rising, QueueBlame::ranked, 5, 4, 3, 2, 1, 0);
            QueueBlame equal = measured(1, 0, 0, 2, 0, 1, 3, 0, 2, 3, 0, 3, 4, 0, 4, 3, 0, 5, 4);
            equal.setCapacity(1);
            flowsTaken(equal, QueueBlame::ranked, 3, 5, 1, 2, 4, 0);
            QueueBlame below = measured(2, 0, 0, 10, 0, 1, 100);
            flowsTaken(below, QueueBlame::ranked, 1, 2, 3, 4, 5, 0);
            // 5/12 and 3/4: by numerators or denominators alone the ranking would be another.
            QueueBlame parts = Check.with(0, 5, 60, 0, 1, 30, 0, 2, 30, 0, 3, 30);
            flowsTaken(parts, QueueBlame::ranked, 5, 1, 2, 3, 0, 4);
        });
        doc.says("- `rank`: the position in the ranking, 0 to 5", () -> {
            QueueBlame x = Check.with(0, 5, 2);
            x.setCapacity(1);
            Check.due("rank 0", x.ranked(0), 5);
            Check.due("rank 1", x.ranked(1), 0);
            Check.due("rank 5", x.ranked(5), 4);
        });
        doc.says("Throws `IndexOutOfBoundsException` if rank is not 0 to 5",
            () -> flowsRefused(Check.with(0, 0, 1), QueueBlame::ranked));
    }

    private void sampled() {
        doc.section("Promise 28");
        doc.says("Returns the sum of the contributions of a flow to the sets of the flows before it in some random "
            + "orders.", () -> {
            QueueBlame x = crowd(2);
            int[][] orders = {{2, 4, 1, 5, 3, 0}, {3, 4, 2, 5, 0, 1}, {0, 1, 4, 5, 2, 3}};
            int[] sums = new int[6];
            for (int k = 0; k < 3; k++) {
                int before = 0;
                for (int flow : orders[k]) {
                    sums[flow] += x.contribution(flow, before);
                    before |= 1 << flow;
                }
                for (int flow = 0; flow < 6; flow++) Check.due("flow " + flow, x.sampled(flow, k + 1, 0), sums[flow]);
            }
        });
        doc.says("- `flow`: a flow, 0 to 5", () -> {
            QueueBlame x = measured(1, 0, 0, 2, 0, 1, 3, 0, 2, 4, 0, 3, 5, 0, 4, 6, 0, 5, 7);
            x.setCapacity(1);
            flowsTaken(x, (y, flow) -> y.sampled(flow, 10, 0), 20, 30, 40, 50, 60, 70);
        });
        doc.says("- `orders`: the number of orders, 1 to 100", () -> {
            QueueBlame x = Check.with(0, 0, 2);
            x.setCapacity(1);
            Check.due("1 order", x.sampled(0, 1, 0), 1);
            Check.due("2 orders", x.sampled(0, 2, 0), 2);
            Check.due("99 orders", x.sampled(0, 99, 0), 99);
            Check.due("100 orders", x.sampled(0, 100, 0), 100);
        });
        doc.says("- `start`: the state at first, 0 or more", () -> {
            // Flow 0 is before flow 5 in the first order from 1 and from the greatest int, behind it in that from 0.
            QueueBlame x = Check.with(0, 0, 60, 0, 5, 60);
            Check.due("start 0", x.sampled(5, 1, 0), 0);
            Check.due("start 1", x.sampled(5, 1, 1), 1);
            Check.due("the greatest int", x.sampled(5, 1, Integer.MAX_VALUE), 1);
        });
        doc.says("Throws `IndexOutOfBoundsException` if there is no such flow",
            () -> flowsRefused(Check.with(0, 0, 1), (x, flow) -> x.sampled(flow, 1, 0)));
        doc.says("Throws `IllegalArgumentException` if orders or start is out of range", () -> {
            QueueBlame x = Check.with(0, 0, 1);
            for (int orders : new int[] {0, 101, -1, Integer.MIN_VALUE, Integer.MAX_VALUE}) {
                Check.throwsArgument("orders " + orders, () -> x.sampled(0, orders, 0));
            }
            Check.throwsArgument("start -1", () -> x.sampled(0, 1, -1));
            Check.throwsArgument("the least int", () -> x.sampled(0, 1, Integer.MIN_VALUE));
        });
    }

    private static void packetsRefused(OfFlow call) {
        Check.throwsIndex("none", () -> call.of(new QueueBlame(), 0));
        QueueBlame x = Check.with(0, 0, 60, 0, 1, 60);
        for (int packet : new int[] {-1, 2, 40, Integer.MIN_VALUE, Integer.MAX_VALUE}) {
            Check.throwsIndex("packet " + packet, () -> call.of(x, packet));
        }
        Check.due("the last", call.of(x, 1), 1);
        x.replay(63);
        x.erase(1);
        Check.throwsIndex("it was in the latest replay, but is erased", () -> call.of(x, 1));
    }

    private void cause() {
        doc.section("Promise 29");
        doc.says("Returns the set of flows, as a bit mask; 0 if the packet is not dropped in the replay with all flows; "
            + "NONE if it is dropped, but there is no cause.", () -> {
            QueueBlame x = Check.with(0, 0, 60, 0, 1, 60, 0, 5, 40, 0, 5, 1);
            Check.due("not dropped", x.cause(0), 0);
            Check.due("flow 0", x.cause(1), 1);
            Check.due("not dropped", x.cause(2), 0);
            Check.due("flows 0 and 1", x.cause(3), 3);
            x.replay(2);
            Check.due("by the replay with all flows", x.cause(1), 1);
            x.setCapacity(59);
            Check.due("too large", x.cause(0), -1);
            x.setCapacity(40);
            Check.due("by its own flow alone", x.cause(3), -1);
            Check.due("flow 5", Check.with(0, 5, 60, 0, 1, 60).cause(1), 32);
        });
        doc.says("Throws `IndexOutOfBoundsException` if there is no such packet", () -> packetsRefused(QueueBlame::cause));
    }

    private void suspects() {
        doc.section("Promise 30");
        doc.says("Returns the set of all flows that are in some cause with as many flows as the smallest one.", () -> {
            Check.due("one", Check.with(0, 0, 60, 0, 1, 60).suspects(1), 1);
            Check.due("each of two", Check.with(0, 0, 40, 0, 1, 40, 0, 2, 40).suspects(2), 3);
            Check.due("both of two", Check.with(0, 0, 50, 0, 1, 50, 0, 2, 60).suspects(2), 3);
            Check.due("not those of larger causes", Check.with(0, 0, 20, 0, 1, 20, 0, 5, 40, 0, 2, 50).suspects(3), 32);
            Check.due("two of three", Check.with(0, 4, 30, 0, 3, 30, 0, 1, 30, 0, 0, 60).suspects(3), 26);
            Check.due("not the one without guilt", Check.with(0, 0, 45, 0, 5, 45, 0, 2, 10, 0, 3, 30).suspects(3), 33);
            Check.due("five", Check.with(0, 1, 20, 0, 2, 20, 0, 3, 20, 0, 4, 20, 0, 5, 20, 0, 0, 100).suspects(5), 62);
        });
        doc.says("Returns the set of flows, as a bit mask; 0 if the packet is not dropped in the replay with all flows, or "
            + "there is no cause.", () -> {
            QueueBlame x = Check.with(0, 0, 60, 0, 5, 60, 0, 0, 60);
            Check.due("not dropped", x.suspects(0), 0);
            Check.due("flow 0", x.suspects(1), 1);
            Check.due("no cause", x.suspects(2), 0);
            x.setCapacity(59);
            Check.due("too large", x.suspects(0), 0);
        });
        doc.says("Throws `IndexOutOfBoundsException` if there is no such packet",
            () -> packetsRefused(QueueBlame::suspects));
    }

    private void capacityFor() {
        doc.section("Promise 31");
        doc.says("Finds the smallest capacity with which at most some packets are dropped in the replay with all flows, "
            + "with all other settings as they are.", () -> {
            QueueBlame x = Check.with(0, 0, 60, 0, 1, 60);
            Check.due("0 drops", x.capacityFor(0), 120);
            Check.due("1 drop", x.capacityFor(1), 60);
            Check.due("2 drops", x.capacityFor(2), 1);
            x.replay(1);
            x.setCapacity(1000);
            Check.due("whatever the capacity is", x.capacityFor(0), 120);
            Check.due("which stays", x.setCapacity(100), 1000);
            // Two packets fit with 40 to 49 and from 70 on; from 50 to 69 the first takes the room of both others.
            Check.due("below a gap", Check.with(0, 0, 50, 0, 1, 20, 0, 2, 20).capacityFor(1), 40);
            QueueBlame fast = Check.with(0, 0, 60, 1, 1, 60);
            fast.setRate(50);
            Check.due("by the rate", fast.capacityFor(0), 70);
            QueueBlame policy = Check.with(0, 0, 30, 0, 1, 10);
            policy.setPolicy(3);
            policy.setFactor(3);
            Check.due("by policy and factor", policy.capacityFor(0), 44);
            QueueBlame scheduled = Check.with(0, 0, 10, 0, 1, 40, 1, 2, 40, 2, 3, 20);
            scheduled.setPolicy(1);
            Check.due("by the policy", scheduled.capacityFor(1), smallestByTrying(scheduled, 1));
            scheduled.setScheduler(2);
            scheduled.setPolicy(2);
            Check.due("by the scheduler", scheduled.capacityFor(1), smallestByTrying(scheduled, 1));
        });
        doc.says("- `drops`: how many packets may be dropped, 0 or more", () -> {
            QueueBlame x = new QueueBlame();
            Check.due("no packets", x.capacityFor(0), 1);
            for (int k = 0; k < 40; k++) x.record(0, k % 6, 3);
            for (int drops = 0; drops < 40; drops++) Check.due("drops " + drops, x.capacityFor(drops), 3 * (40 - drops));
            Check.due("40 drops", x.capacityFor(40), 1);
            Check.due("41 drops", x.capacityFor(41), 1);
            Check.due("the greatest int", x.capacityFor(Integer.MAX_VALUE), 1);
        });
        doc.says("Returns the capacity, 1 to 1000; NONE if there is none.", () -> {
            Check.due("the least", Check.with(0, 0, 1).capacityFor(0), 1);
            QueueBlame x = new QueueBlame();
            for (int k = 0; k < 10; k++) x.record(0, 0, 100);
            Check.due("the greatest", x.capacityFor(0), 1000);
            x.record(0, 0, 1);
            Check.due("1001 would be needed", x.capacityFor(0), -1);
            Check.due("1000 with one drop", x.capacityFor(1), 901);
            QueueBlame early = Check.with(0, 0, 1, 0, 0, 1);
            early.setPolicy(4);
            early.setThreshold(0);
            early.setInterval(2);
            Check.due("no capacity helps", early.capacityFor(0), -1);
            Check.due("one drop", early.capacityFor(1), 1);
        });
        doc.says("Throws `IllegalArgumentException` if drops is not 0 or more", () -> {
            QueueBlame x = new QueueBlame();
            Check.throwsArgument("drops -1", () -> x.capacityFor(-1));
            Check.throwsArgument("the least int", () -> x.capacityFor(Integer.MIN_VALUE));
        });
    }

    private static int smallestByTrying(QueueBlame x, int drops) {
        for (int capacity = 1; capacity <= 120; capacity++) {
            x.setCapacity(capacity);
            if (x.replay(63) <= drops) return capacity;
        }
        return QueueBlame.NONE;
    }

    private void bestPolicy() {
        doc.section("Promise 32");
        doc.says("Finds the policy with which the measure of the replay with all flows is smallest, with all other "
            + "settings as they are.", () -> {
            Check.due("tail drop", measured(1, 0, 0, 100, 0, 1, 50, 0, 2, 50).bestPolicy(), 0);
            Check.due("head drop", Check.with(0, 0, 100, 0, 1, 50, 0, 2, 50).bestPolicy(), 1);
            // Head drop loses 120 bytes, longest flow 100, the others 110.
            Check.due("longest flow", measured(1, 0, 0, 10, 0, 0, 50, 0, 1, 60, 0, 1, 50).bestPolicy(), 2);
            QueueBlame delays = measured(2, 0, 0, 50, 0, 1, 50);
            delays.setFactor(1);
            Check.due("dynamic threshold", delays.bestPolicy(), 3);
            delays.setFactor(4);
            delays.setThreshold(0);
            delays.setInterval(2);
            Check.due("early drop", delays.bestPolicy(), 4);
            delays.setPolicy(2);
            Check.due("whatever the policy is", delays.bestPolicy(), 4);
            Check.due("which stays", delays.setPolicy(0), 2);
        });
        doc.says("Returns the policy, of several the one with the lowest number.", () -> {
            Check.due("all are equal", new QueueBlame().bestPolicy(), 0);
            QueueBlame x = new QueueBlame();
            x.setPolicy(4);
            Check.due("all are equal", x.bestPolicy(), 0);
            // Policies 1 and 2 drop one packet, the others two.
            Check.due("1 and 2 are equal", Check.with(0, 0, 100, 0, 1, 50, 0, 2, 50).bestPolicy(), 1);
            // Policies 2 and 3 lose 60 bytes, the others 70 and 90.
            Check.due("2 and 3 are equal", measured(1, 0, 0, 30, 0, 0, 60, 0, 1, 70).bestPolicy(), 2);
        });
    }
}
