/** Promises 37 and 38: undo and checksum. */
public final class UndoTest {
    private static void depth() {
        QueueBlame x = new QueueBlame();
        for (int k = 1; k <= 10; k++) x.setCapacity(100 + k);
        for (int left = 7; left >= 0; left--) Check.due("undo", x.undo(), left);
        Check.throwsState("undo of none", x::undo);
        Check.due("the eighth state from the last", x.setCapacity(1), 102);
        Check.due("undo", x.undo(), 0);
        Check.due("capacity again", x.setCapacity(1), 102);
    }

    private static void everything() {
        QueueBlame x = new QueueBlame();
        x.record(5, 1, 10);
        long[] sums = new long[9];
        for (int k = 0; k < 8; k++) {
            sums[k] = x.checksum();
            switch (k) {
                case 0: x.record(0, 2, 20); break;
                case 1: x.erase(1); break;
                case 2: x.setPolicy(2); break;
                case 3: x.setPriority(5, 1); break;
                case 4: x.setMeasure(2); break;
                case 5: x.setInterval(9); break;
                case 6: x.setThreshold(9); break;
                default: x.run(); break;
            }
        }
        // The eight states that are kept push the one before the first record out.
        for (int k = 7; k >= 0; k--) {
            Check.due("undo", x.undo(), k);
            Check.due("checksum " + k, x.checksum() - k, k == 0 ? sums[0] - 1 : sums[k] - Math.min(k + 1, 8));
        }
    }

    private static void whatStays() {
        QueueBlame x = new QueueBlame();
        x.record(0, 0, 30);
        x.replay(63);
        x.type(65);
        Check.due("undo", x.undo(), 0);
        Check.due("the text stays", x.fault(), 0);
        Check.due("the latest replay stays", x.fate(0), 2);
        Check.due("its loads stay", x.loadAt(0), 20);
        Check.due("no packets", x.packets(), 0);
        Check.throwsState("a replay and a text are not saved", x::undo);
    }

    private static void refusedCallsSaveNothing() {
        QueueBlame x = new QueueBlame();
        Check.throwsArgument("setRate(0)", () -> x.setRate(0));
        Check.throwsIndex("erase(0)", () -> x.erase(0));
        Check.throwsIndex("setPriority(6, 0)", () -> x.setPriority(6, 0));
        x.type(65);
        Check.throwsArgument("run", x::run);
        Check.throwsState("undo", x::undo);
        x.clearText();
        x.run();
        Check.due("undo of an empty run", x.undo(), 0);
    }

    private static long next(long h, long... values) {
        long sum = h;
        for (long v : values) sum = 31 * sum + v;
        return sum;
    }

    private static long worths(QueueBlame x, long h) {
        long sum = h;
        for (int set = 0; set < 64; set++) sum = next(sum, x.worth(set));
        return sum;
    }

    private static void checksum() {
        QueueBlame x = new QueueBlame();
        Check.due("checksum of a new object", x.checksum(), 5854592597389453544L);
        x.record(4, 5, 60);
        x.record(4, 3, 70);
        x.record(2, 1, 80);
        x.setCapacity(101);
        x.setRate(11);
        x.setPolicy(1);
        x.setScheduler(2);
        x.setFactor(7);
        x.setThreshold(55);
        x.setInterval(8);
        x.setMeasure(2);
        for (int flow = 0; flow < 6; flow++) x.setPriority(flow, 9 - flow);
        x.undo();
        Check.write(x, "abc");
        long h = next(18505, 3, 2, 1, 80, 4, 5, 60, 4, 3, 70, 101, 11, 1, 2, 7, 55, 8, 2, 9, 8, 7, 6, 5, 5);
        h = next(worths(x, h), 3, 7);
        Check.due("checksum", x.checksum(), h);
        Check.due("checksum again", x.checksum(), h);
    }

    public static void main(String[] args) {
        depth();
        everything();
        whatStays();
        refusedCallsSaveNothing();
        checksum();
        Check.end();
    }
}
