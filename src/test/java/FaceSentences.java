/** The sentences of the promises 1 to 19 that name a boundary case, and the one on the number of calls. */
public final class FaceSentences {
    private interface Setting {
        int set(QueueBlame x, int value);
    }

    private final Sentences doc;

    private FaceSentences(Sentences doc) {
        this.doc = doc;
    }

    public static void test(Sentences doc) {
        FaceSentences sentences = new FaceSentences(doc);
        sentences.calls();
        sentences.newObject();
        sentences.record();
        sentences.erase();
        sentences.packets();
        sentences.setting(6, "capacity", 100, 1, 1000, QueueBlame::setCapacity);
        sentences.setting(7, "rate", 10, 1, 100, QueueBlame::setRate);
        sentences.setting(8, "policy", 0, 0, 4, QueueBlame::setPolicy);
        sentences.setting(9, "scheduler", 0, 0, 2, QueueBlame::setScheduler);
        sentences.setting(10, "factor", 4, 1, 16, QueueBlame::setFactor);
        sentences.setting(11, "threshold", 50, 0, 1000, QueueBlame::setThreshold);
        sentences.setting(12, "interval", 3, 2, 9, QueueBlame::setInterval);
        sentences.setting(13, "measure", 0, 0, 2, QueueBlame::setMeasure);
        sentences.priority();
        sentences.replay();
        sentences.fate();
        sentences.loadAt();
        sentences.peakAndDropped();
    }

    private void calls() {
        doc.section("What it is");
        doc.says("An object is used for at most 512 calls after it has been made; what later calls answer is free.", () -> {
            QueueBlame x = new QueueBlame();
            for (int call = 1; call <= 509; call++) x.setCapacity(call);
            Check.due("call 510", x.undo(), 7);
            Check.due("call 511", x.setCapacity(7), 508);
            Check.due("call 512", x.setCapacity(8), 7);
        });
    }

    private void newObject() {
        doc.section("Promise 1");
        doc.says("Creates an analyser without packets, with the initial settings and an empty text; there has been no "
            + "replay.", () -> {
            QueueBlame x = new QueueBlame();
            Check.due("packets", x.packets(), 0);
            Check.due("fate", x.fate(0), -1);
            Check.due("load", x.loadAt(0), -1);
            Check.due("peak", x.peak(), -1);
            Check.due("drop", x.dropped(0), -1);
            Check.due("fault", x.fault(), -1);
            Check.due("length of the text", x.clearText(), 0);
            Check.throwsState("undo", x::undo);
            long h = 18505 * 31L;
            for (int v : new int[] {100, 10, 0, 0, 4, 50, 3, 0, 5, 5, 5, 5, 5, 5}) h = 31 * h + v;
            for (int zero = 0; zero < 64 + 2; zero++) h = 31 * h;
            Check.due("checksum of the initial settings", x.checksum(), h);
            QueueBlame used = Check.with(0, 0, 1);
            used.setRate(1);
            used.type(';');
            used.replay(63);
            Check.due("another object's changes are not seen", new QueueBlame().checksum(), h);
        });
    }

    private void record() {
        doc.section("Promise 2");
        doc.says("Undoable.", () -> {
            QueueBlame x = Check.with(5, 1, 10);
            long before = x.checksum();
            Check.due("record", x.record(0, 0, 1), 0);
            Check.due("undo", x.undo(), 1);
            Check.due("checksum", x.checksum(), before);
        });
        doc.says("- `time`: 0 to 500", () -> {
            QueueBlame x = new QueueBlame();
            Check.due("time 500", x.record(500, 0, 1), 0);
            Check.due("time 0", x.record(0, 0, 1), 0);
            Check.due("the last", x.packet(1, 0), 500);
            Check.due("the first", x.packet(0, 0), 0);
        });
        doc.says("- `flow`: a flow, 0 to 5", () -> {
            QueueBlame x = new QueueBlame();
            Check.due("flow 5", x.record(0, 5, 1), 0);
            Check.due("flow 0", x.record(0, 0, 1), 1);
            Check.due("the first", x.packet(0, 1), 5);
            Check.due("the second", x.packet(1, 1), 0);
        });
        doc.says("- `size`: 1 to 100", () -> {
            QueueBlame x = new QueueBlame();
            Check.due("size 100", x.record(0, 0, 100), 0);
            Check.due("size 1", x.record(0, 0, 1), 1);
            Check.due("the first", x.packet(0, 2), 100);
            Check.due("the second", x.packet(1, 2), 1);
        });
        doc.says("Returns the number of the packet.", () -> {
            QueueBlame x = new QueueBlame();
            Check.due("the only one", x.record(9, 0, 1), 0);
            Check.due("behind it", x.record(9, 1, 1), 1);
            Check.due("before it", x.record(8, 2, 1), 0);
            for (int k = 3; k < 40; k++) Check.due("the last", x.record(500, 3, 1), k);
        });
        doc.says("Throws `IndexOutOfBoundsException` if there is no such flow", () -> {
            QueueBlame x = new QueueBlame();
            for (int flow : new int[] {-1, 6, 32, Integer.MIN_VALUE, Integer.MAX_VALUE}) {
                Check.throwsIndex("flow " + flow, () -> x.record(0, flow, 1));
            }
            Check.due("nothing was recorded", x.packets(), 0);
        });
        doc.says("Throws `IllegalArgumentException` if time or size is out of range", () -> {
            QueueBlame x = new QueueBlame();
            for (int time : new int[] {-1, 501, Integer.MIN_VALUE, Integer.MAX_VALUE}) {
                Check.throwsArgument("time " + time, () -> x.record(time, 0, 1));
            }
            for (int size : new int[] {0, 101, -1, Integer.MIN_VALUE, Integer.MAX_VALUE}) {
                Check.throwsArgument("size " + size, () -> x.record(0, 0, size));
            }
            Check.due("nothing was recorded", x.packets(), 0);
        });
        doc.says("Throws `IllegalStateException` if there are 40 packets", () -> {
            QueueBlame x = new QueueBlame();
            for (int k = 0; k < 40; k++) Check.due("record", x.record(1, 0, 1), k);
            Check.throwsState("before all", () -> x.record(0, 0, 1));
            Check.throwsState("behind all", () -> x.record(500, 0, 1));
            x.erase(0);
            Check.due("one has gone", x.record(500, 0, 1), 39);
            Check.throwsState("again", () -> x.record(500, 0, 1));
        });
    }

    private void erase() {
        doc.section("Promise 3");
        doc.says("Removes a packet; the numbers of those behind it decrease by 1.", () -> {
            QueueBlame x = new QueueBlame();
            for (int k = 0; k < 40; k++) x.record(k, k % 6, 1 + k);
            x.erase(0);
            for (int p = 0; p < 39; p++) Check.due("without the first", x.packet(p, 2), 2 + p);
            x.erase(38);
            for (int p = 0; p < 38; p++) Check.due("without the last", x.packet(p, 2), 2 + p);
            x.erase(19);
            for (int p = 0; p < 37; p++) Check.due("without the middle", x.packet(p, 0), 1 + (p < 19 ? p : p + 1));
            for (int p = 0; p < 37; p++) Check.due("its flow too", x.packet(p, 1), (1 + (p < 19 ? p : p + 1)) % 6);
        });
        doc.says("Undoable.", () -> {
            QueueBlame x = Check.with(5, 1, 10, 5, 2, 20, 5, 3, 30);
            long before = x.checksum();
            Check.due("erase", x.erase(1), 2);
            Check.due("undo", x.undo(), 3);
            Check.due("checksum", x.checksum(), before);
            Check.due("at its place again", x.packet(1, 2), 20);
        });
        doc.says("Returns the number of packets then.", () -> {
            QueueBlame x = Check.with(0, 0, 1, 0, 0, 1, 0, 0, 1);
            for (int left = 2; left >= 0; left--) Check.due("erase", x.erase(0), left);
        });
        doc.says("Throws `IndexOutOfBoundsException` if there is no such packet", () -> {
            QueueBlame x = new QueueBlame();
            Check.throwsIndex("none", () -> x.erase(0));
            x.record(0, 0, 1);
            x.record(0, 0, 1);
            for (int p : new int[] {-1, 2, 40, Integer.MIN_VALUE, Integer.MAX_VALUE}) {
                Check.throwsIndex("packet " + p, () -> x.erase(p));
            }
            Check.due("the last", x.erase(1), 1);
            Check.throwsIndex("the last again", () -> x.erase(1));
        });
    }

    private void packets() {
        doc.section("Promise 4");
        doc.says("Returns the number of recorded packets.", () -> {
            QueueBlame x = new QueueBlame();
            Check.due("none", x.packets(), 0);
            for (int k = 1; k <= 40; k++) {
                x.record(0, 0, 1);
                Check.due("packets", x.packets(), k);
            }
            x.erase(0);
            Check.due("after erase", x.packets(), 39);
            x.undo();
            Check.due("after undo", x.packets(), 40);
        });
        doc.section("Promise 5");
        doc.says("- `what`: 0 its time, 1 its flow, 2 its size", () -> {
            QueueBlame x = Check.with(500, 5, 100);
            Check.due("what 0", x.packet(0, 0), 500);
            Check.due("what 1", x.packet(0, 1), 5);
            Check.due("what 2", x.packet(0, 2), 100);
        });
        doc.says("Throws `IndexOutOfBoundsException` if there is no such packet", () -> {
            QueueBlame x = new QueueBlame();
            Check.throwsIndex("none", () -> x.packet(0, 0));
            x.record(0, 0, 1);
            for (int p : new int[] {-1, 1, 40, Integer.MIN_VALUE, Integer.MAX_VALUE}) {
                Check.throwsIndex("packet " + p, () -> x.packet(p, 0));
            }
            x.erase(0);
            Check.throwsIndex("erased", () -> x.packet(0, 0));
        });
        doc.says("Throws `IllegalArgumentException` if what is not 0 to 2", () -> {
            QueueBlame x = Check.with(0, 0, 1);
            for (int what : new int[] {-1, 3, Integer.MIN_VALUE, Integer.MAX_VALUE}) {
                Check.throwsArgument("what " + what, () -> x.packet(0, what));
            }
        });
    }

    private void setting(int promise, String name, int initial, int lowest, int highest, Setting setting) {
        doc.section("Promise " + promise);
        String range = lowest + " to " + highest;
        doc.says("Undoable.", () -> {
            QueueBlame x = new QueueBlame();
            long before = x.checksum();
            setting.set(x, highest == initial ? lowest : highest);
            Check.due("undo", x.undo(), 0);
            Check.due("checksum", x.checksum(), before);
            setting.set(x, initial);
            Check.due("undo of the same value", x.undo(), 0);
        });
        doc.says("- `value`: the new " + name + ", " + range, () -> {
            QueueBlame x = new QueueBlame();
            int previous = initial;
            for (int value = lowest; value <= highest; value += highest - lowest > 100 ? 37 : 1) {
                Check.due("value " + value, setting.set(x, value), previous);
                previous = value;
            }
            Check.due("the highest", setting.set(x, highest), previous);
            Check.due("the lowest", setting.set(x, lowest), highest);
            Check.due("it was set", setting.set(x, lowest), lowest);
        });
        doc.says("Returns the previous " + name + ".", () -> {
            QueueBlame x = new QueueBlame();
            Check.due("the initial one", setting.set(x, highest), initial);
            Check.due("the one that was set", setting.set(x, lowest), highest);
            x.undo();
            Check.due("the one that was restored", setting.set(x, lowest), highest);
        });
        doc.says("Throws `IllegalArgumentException` if value is not " + range, () -> {
            QueueBlame x = new QueueBlame();
            for (int value : new int[] {lowest - 1, highest + 1, Integer.MIN_VALUE, Integer.MAX_VALUE}) {
                Check.throwsArgument("value " + value, () -> setting.set(x, value));
            }
            Check.due("it stayed", setting.set(x, lowest), initial);
        });
    }

    private void priority() {
        doc.section("Promise 14");
        doc.says("Undoable.", () -> {
            QueueBlame x = new QueueBlame();
            long before = x.checksum();
            for (int flow = 0; flow < 6; flow++) {
                x.setPriority(flow, 9);
                Check.due("undo", x.undo(), 0);
                Check.due("checksum", x.checksum(), before);
            }
        });
        doc.says("- `flow`: a flow, 0 to 5", () -> {
            QueueBlame x = new QueueBlame();
            Check.due("flow 0", x.setPriority(0, 1), 5);
            Check.due("flow 5", x.setPriority(5, 2), 5);
            for (int flow = 1; flow < 5; flow++) Check.due("the others stayed", x.setPriority(flow, 5), 5);
            Check.due("flow 0", x.setPriority(0, 1), 1);
            Check.due("flow 5", x.setPriority(5, 1), 2);
        });
        doc.says("- `value`: the new priority, 0 to 9", () -> {
            QueueBlame x = new QueueBlame();
            Check.due("value 0", x.setPriority(3, 0), 5);
            Check.due("value 9", x.setPriority(3, 9), 0);
            Check.due("it was set", x.setPriority(3, 0), 9);
        });
        doc.says("Returns the previous priority.", () -> {
            QueueBlame x = new QueueBlame();
            for (int value = 0; value < 10; value++) {
                Check.due("previous", x.setPriority(2, value), value == 0 ? 5 : value - 1);
            }
        });
        doc.says("Throws `IndexOutOfBoundsException` if there is no such flow", () -> {
            QueueBlame x = new QueueBlame();
            for (int flow : new int[] {-1, 6, -8, Integer.MIN_VALUE, Integer.MAX_VALUE}) {
                Check.throwsIndex("flow " + flow, () -> x.setPriority(flow, 0));
            }
        });
        doc.says("Throws `IllegalArgumentException` if value is not 0 to 9", () -> {
            QueueBlame x = new QueueBlame();
            for (int flow = 0; flow < 6; flow++) {
                int f = flow;
                for (int value : new int[] {-1, 10, Integer.MIN_VALUE, Integer.MAX_VALUE}) {
                    Check.throwsArgument("value " + value, () -> x.setPriority(f, value));
                }
                Check.due("it stayed", x.setPriority(flow, 0), 5);
            }
        });
    }

    private void replay() {
        doc.section("Promise 15");
        doc.says("Replays the packets of some flows; this is the latest replay then.", () -> {
            QueueBlame x = Check.with(0, 0, 60, 0, 1, 60);
            Check.due("all", Sight.fates(x, 63), "5 -2");
            Check.due("flow 1", Sight.fates(x, 2), "-3 5");
            Check.due("its drops", x.dropped(0), -1);
            Check.due("none", Sight.fates(x, 0), "-3 -3");
            Check.due("its peak", x.peak(), 0);
            Check.due("its load", x.loadAt(0), 0);
        });
        doc.says("- `flows`: a set of flows, as a bit mask", () -> {
            QueueBlame x = Check.with(0, 0, 1, 0, 1, 1, 0, 2, 1, 0, 3, 1, 0, 4, 1, 0, 5, 1);
            String[] due = {"0 -3 -3 -3 -3 -3", "-3 0 -3 -3 -3 -3", "-3 -3 0 -3 -3 -3", "-3 -3 -3 0 -3 -3",
                "-3 -3 -3 -3 0 -3", "-3 -3 -3 -3 -3 0"};
            for (int flow = 0; flow < 6; flow++) Check.due("flow " + flow, Sight.fates(x, 1 << flow), due[flow]);
            Check.due("set 0", Sight.fates(x, 0), "-3 -3 -3 -3 -3 -3");
            Check.due("set 63", Sight.fates(x, 63), "0 0 0 0 0 0");
        });
        doc.says("Returns the number of dropped packets.", () -> {
            QueueBlame x = new QueueBlame();
            Check.due("without packets", x.replay(63), 0);
            for (int k = 0; k < 40; k++) x.record(0, 0, 2);
            Check.due("all of 40 fit", x.replay(63), 0);
            x.setCapacity(60);
            Check.due("ten of 40 do not fit", x.replay(63), 10);
            x.setCapacity(1);
            Check.due("all of 40", x.replay(63), 40);
            Check.due("those of other flows", x.replay(62), 0);
        });
        doc.says("Throws `IllegalArgumentException` if flows is not 0 to 63", () -> {
            QueueBlame x = Check.with(0, 0, 20);
            for (int flows : new int[] {-1, 64, Integer.MIN_VALUE, Integer.MAX_VALUE}) {
                Check.throwsArgument("flows " + flows, () -> x.replay(flows));
            }
            Check.due("there was no replay", x.fate(0), -1);
            x.replay(63);
            Check.throwsArgument("flows 64", () -> x.replay(64));
            Check.due("the latest replay stays", x.fate(0), 1);
        });
    }

    private void fate() {
        doc.section("Promise 16");
        doc.says("(The packets are those of that replay, even if packets were recorded or removed since then, or a state "
            + "was restored.)", () -> {
            QueueBlame x = Check.with(2, 0, 60, 2, 1, 60, 2, 2, 40);
            x.replay(59);
            x.record(0, 5, 1);
            x.record(500, 5, 1);
            Check.due("after record", fatesUpTo(x, 4), "7 -2 -3 -1 -1 ");
            x.erase(0);
            x.erase(0);
            x.erase(0);
            x.erase(0);
            Check.due("after erase", fatesUpTo(x, 4), "7 -2 -3 -1 -1 ");
            x.setCapacity(1);
            x.setRate(1);
            for (int k = 0; k < 8; k++) x.undo();
            Check.due("after undo", fatesUpTo(x, 4), "7 -2 -3 -1 -1 ");
        });
        doc.says("Returns its finish; -2 if it was dropped; -3 if its flow was left out; NONE if there was no such "
            + "packet, or no replay.", () -> {
            QueueBlame x = Check.with(0, 0, 60, 0, 1, 60, 0, 2, 30);
            Check.due("no replay", fatesUpTo(x, 3), "-1 -1 -1 -1 ");
            x.worth(63);
            Check.due("no replay by worth", fatesUpTo(x, 3), "-1 -1 -1 -1 ");
            x.replay(59);
            Check.due("finish, dropped, left out, none", fatesUpTo(x, 3), "5 -2 -3 -1 ");
            Check.due("packet -1", x.fate(-1), -1);
            Check.due("packet 40", x.fate(40), -1);
            Check.due("the least int", x.fate(Integer.MIN_VALUE), -1);
            Check.due("the greatest int", x.fate(Integer.MAX_VALUE), -1);
            Check.due("a finish of 0", finishOfZero(), 0);
            QueueBlame none = new QueueBlame();
            none.replay(63);
            Check.due("a replay without packets", none.fate(0), -1);
        });
    }

    private static int finishOfZero() {
        QueueBlame x = Check.with(0, 0, 1);
        x.replay(1);
        return x.fate(0);
    }

    private static String fatesUpTo(QueueBlame x, int last) {
        StringBuilder fates = new StringBuilder();
        for (int p = 0; p <= last; p++) fates.append(x.fate(p)).append(' ');
        return fates.toString();
    }

    private void loadAt() {
        doc.section("Promise 17");
        doc.says("Returns the load in the latest replay at the end of a tick.", () -> {
            QueueBlame x = Check.with(3, 0, 35, 4, 1, 12, 9, 2, 10);
            x.replay(63);
            int[] due = {0, 0, 0, 25, 27, 17, 7, 0, 0, 0, 0};
            for (int tick = 0; tick < due.length; tick++) Check.due("tick " + tick, x.loadAt(tick), due[tick]);
            x.replay(2);
            Check.due("of the latest replay", x.loadAt(3), 0);
            Check.due("of the latest replay", x.loadAt(4), 2);
            x.setRate(1);
            x.erase(1);
            Check.due("the rate was another", x.loadAt(5), 0);
            Check.due("the packets were others", x.loadAt(4), 2);
            QueueBlame most = new QueueBlame();
            for (int k = 0; k < 40; k++) most.record(12 * k, k % 6, 11 + k);
            most.replay(63);
            for (int k = 0; k < 40; k++) Check.due("40 ticks with arrivals", most.loadAt(12 * k), 1 + k);
        });
        doc.says("Returns the load; 0 for ticks behind the end of the replay; NONE if tick is negative, or there was no "
            + "replay.", () -> {
            QueueBlame x = Check.with(500, 0, 100);
            Check.due("no replay", x.loadAt(0), -1);
            Check.due("no replay", x.loadAt(Integer.MAX_VALUE), -1);
            Check.due("no replay and a negative tick", x.loadAt(-1), -1);
            x.replay(63);
            Check.due("the end", x.loadAt(508), 10);
            Check.due("behind the end", x.loadAt(509), 0);
            Check.due("behind the end", x.loadAt(510), 0);
            Check.due("far behind the end", x.loadAt(Integer.MAX_VALUE), 0);
            Check.due("tick 0", x.loadAt(0), 0);
            Check.due("tick -1", x.loadAt(-1), -1);
            Check.due("the least int", x.loadAt(Integer.MIN_VALUE), -1);
            x.replay(0);
            Check.due("a replay without packets", x.loadAt(0), 0);
            Check.due("a replay without packets, tick -1", x.loadAt(-1), -1);
        });
    }

    private void peakAndDropped() {
        doc.section("Promise 18");
        doc.says("Returns the greatest load at the end of a tick in the latest replay.", () -> {
            QueueBlame x = Check.with(0, 0, 50, 1, 1, 50, 1, 2, 10, 8, 3, 80);
            x.replay(63);
            Check.due("in the middle", x.peak(), 90);
            x.replay(7);
            Check.due("of the latest replay", x.peak(), 90);
            x.replay(9);
            Check.due("at the end", x.peak(), 70);
            x.replay(1);
            Check.due("at the beginning", x.peak(), 40);
            x.erase(0);
            x.setRate(1);
            Check.due("it stays", x.peak(), 40);
            QueueBlame within = Check.with(0, 0, 100, 0, 1, 10);
            within.setPolicy(1);
            within.replay(63);
            Check.due("not the load within a tick", within.peak(), 0);
            QueueBlame fewer = Check.with(0, 0, 1, 1, 0, 90);
            fewer.replay(63);
            Check.due("of two packets", fewer.peak(), 80);
            fewer.erase(1);
            fewer.replay(63);
            Check.due("of one packet", fewer.peak(), 0);
        });
        doc.says("Returns the load; 0 if the queue was always empty then; NONE if there was no replay.", () -> {
            QueueBlame x = Check.with(0, 0, 10, 1, 0, 10, 2, 1, 11);
            Check.due("no replay", x.peak(), -1);
            x.replay(1);
            Check.due("always empty at the end of a tick", x.peak(), 0);
            x.replay(63);
            Check.due("once not empty", x.peak(), 1);
            x.replay(0);
            Check.due("no packets of these flows", x.peak(), 0);
            QueueBlame none = new QueueBlame();
            none.replay(63);
            Check.due("no packets at all", none.peak(), 0);
        });
        doc.section("Promise 19");
        doc.says("Returns a packet that was dropped in the latest replay, in the order of the drops.", () -> {
            QueueBlame tail = Check.with(0, 0, 100, 0, 1, 2, 0, 2, 1, 1, 3, 11, 1, 4, 10);
            Check.due("by their numbers", Sight.drops(tail), "1 2 3");
            QueueBlame x = Check.with(0, 0, 50, 0, 1, 51, 0, 2, 50);
            x.setPolicy(1);
            x.setCapacity(50);
            Check.due("not by their numbers", Sight.drops(x), "1 0");
            Check.due("the latest replay's", x.replay(2), 1);
            Check.due("the latest replay's", x.dropped(0), 1);
        });
        doc.says("- `k`: its position in this order, from 0", () -> {
            QueueBlame x = Check.with(0, 0, 100, 0, 1, 1, 0, 2, 1);
            x.replay(63);
            Check.due("position 0", x.dropped(0), 1);
            Check.due("position 1", x.dropped(1), 2);
        });
        doc.says("Returns its number; NONE if there is no such position, or there was no replay.", () -> {
            QueueBlame x = new QueueBlame();
            for (int k = 0; k < 40; k++) x.record(0, 0, 2);
            Check.due("no replay", x.dropped(0), -1);
            x.setCapacity(1);
            x.replay(63);
            Check.due("the first of 40", x.dropped(0), 0);
            Check.due("the last of 40", x.dropped(39), 39);
            Check.due("position 40", x.dropped(40), -1);
            Check.due("position -1", x.dropped(-1), -1);
            Check.due("the least int", x.dropped(Integer.MIN_VALUE), -1);
            Check.due("the greatest int", x.dropped(Integer.MAX_VALUE), -1);
            x.setCapacity(4);
            x.replay(63);
            Check.due("the last of 38", x.dropped(37), 39);
            Check.due("position 38", x.dropped(38), -1);
            x.replay(0);
            Check.due("no drops", x.dropped(0), -1);
        });
    }
}
