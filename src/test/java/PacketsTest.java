/** Promises 1 to 5: a new object, record, erase, packets, packet. */
public final class PacketsTest {
    private static void newObject() {
        QueueBlame x = new QueueBlame();
        Check.due("packets of a new object", x.packets(), 0);
        Check.due("length of the new text", x.clearText(), 0);
        Check.due("fault of the new text", x.fault(), -1);
        Check.due("fate without a replay", x.fate(0), -1);
        Check.due("loadAt without a replay", x.loadAt(0), -1);
        Check.due("peak without a replay", x.peak(), -1);
        Check.due("dropped without a replay", x.dropped(0), -1);
        Check.throwsState("undo of a new object", x::undo);
        Check.due("first capacity", x.setCapacity(1), 100);
        Check.due("first rate", x.setRate(1), 10);
        Check.due("first policy", x.setPolicy(1), 0);
        Check.due("first scheduler", x.setScheduler(1), 0);
        Check.due("first factor", x.setFactor(1), 4);
        Check.due("first threshold", x.setThreshold(1), 50);
        Check.due("first interval", x.setInterval(2), 3);
        Check.due("first measure", x.setMeasure(1), 0);
        for (int flow = 0; flow < 6; flow++) {
            Check.due("first priority", x.setPriority(flow, 0), 5);
        }
    }

    private static void packetIs(QueueBlame x, int number, int time, int flow, int size) {
        Check.due("time of packet " + number, x.packet(number, 0), time);
        Check.due("flow of packet " + number, x.packet(number, 1), flow);
        Check.due("size of packet " + number, x.packet(number, 2), size);
    }

    private static void order() {
        QueueBlame x = new QueueBlame();
        Check.due("the first", x.record(10, 0, 1), 0);
        Check.due("the same time", x.record(10, 1, 2), 1);
        Check.due("a later one", x.record(500, 2, 100), 2);
        Check.due("an earlier one", x.record(0, 3, 3), 0);
        Check.due("the same time again", x.record(10, 4, 4), 3);
        Check.due("between", x.record(9, 5, 5), 1);
        Check.due("packets", x.packets(), 6);
        packetIs(x, 0, 0, 3, 3);
        packetIs(x, 1, 9, 5, 5);
        packetIs(x, 2, 10, 0, 1);
        packetIs(x, 3, 10, 1, 2);
        packetIs(x, 4, 10, 4, 4);
        packetIs(x, 5, 500, 2, 100);
        Check.due("erase in the middle", x.erase(2), 5);
        packetIs(x, 1, 9, 5, 5);
        packetIs(x, 2, 10, 1, 2);
        packetIs(x, 4, 500, 2, 100);
        Check.due("erase the last", x.erase(4), 4);
        packetIs(x, 3, 10, 4, 4);
        Check.due("erase the first", x.erase(0), 3);
        packetIs(x, 0, 9, 5, 5);
        Check.due("packets then", x.packets(), 3);
    }

    private static void wrongRecords() {
        QueueBlame x = new QueueBlame();
        Check.throwsIndex("flow -1", () -> x.record(0, -1, 1));
        Check.throwsIndex("flow 6", () -> x.record(0, 6, 1));
        Check.throwsIndex("flow 6 and time -1", () -> x.record(-1, 6, 0));
        Check.throwsArgument("time -1", () -> x.record(-1, 0, 1));
        Check.throwsArgument("time 501", () -> x.record(501, 0, 1));
        Check.throwsArgument("size 0", () -> x.record(0, 0, 0));
        Check.throwsArgument("size 101", () -> x.record(0, 0, 101));
        Check.due("packets", x.packets(), 0);
        Check.throwsState("nothing was saved", x::undo);
        for (int k = 0; k < 40; k++) {
            Check.due("record", x.record(k, k % 6, 1), k);
        }
        Check.throwsState("the 41st packet", () -> x.record(0, 0, 1));
        Check.throwsArgument("the 41st packet with size 0", () -> x.record(0, 0, 0));
        Check.throwsIndex("the 41st packet with flow 6", () -> x.record(0, 6, 0));
        Check.due("packets", x.packets(), 40);
        Check.due("erase", x.erase(39), 39);
        Check.due("record again", x.record(0, 0, 1), 1);
    }

    private static void wrongNumbers() {
        QueueBlame x = new QueueBlame();
        Check.throwsIndex("erase of none", () -> x.erase(0));
        Check.throwsIndex("packet of none", () -> x.packet(0, 0));
        x.record(0, 0, 1);
        Check.throwsIndex("erase -1", () -> x.erase(-1));
        Check.throwsIndex("erase 1", () -> x.erase(1));
        Check.throwsIndex("packet -1", () -> x.packet(-1, 0));
        Check.throwsIndex("packet 1, what 3", () -> x.packet(1, 3));
        Check.throwsArgument("what 3", () -> x.packet(0, 3));
        Check.throwsArgument("what -1", () -> x.packet(0, -1));
        Check.due("packets", x.packets(), 1);
        Check.due("one state was saved", x.undo(), 0);
    }

    public static void main(String[] args) {
        newObject();
        order();
        wrongRecords();
        wrongNumbers();
        Check.end();
    }
}
