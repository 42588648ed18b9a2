/** The sentences under "RECORDED PACKETS" and "THE QUEUE" that name a boundary case. */
public final class QueueSentences {
    private final Sentences doc;

    private QueueSentences(Sentences doc) {
        this.doc = doc;
    }

    public static void test(Sentences doc) {
        QueueSentences sentences = new QueueSentences(doc);
        doc.section("RECORDED PACKETS");
        sentences.packets();
        doc.section("THE QUEUE");
        sentences.settings();
        sentences.replays();
        sentences.arrivals();
        sentences.droppingByRoom();
        sentences.droppingByFlow();
        sentences.droppingEarly();
        sentences.serving();
        sentences.scheduling();
    }

    private static QueueBlame withPolicy(int policy, int... packets) {
        QueueBlame x = Check.with(packets);
        x.setPolicy(policy);
        return x;
    }

    private static QueueBlame withScheduler(int scheduler, int... packets) {
        QueueBlame x = Check.with(packets);
        x.setScheduler(scheduler);
        return x;
    }

    private static QueueBlame early(int threshold, int interval, int... packets) {
        QueueBlame x = withPolicy(4, packets);
        x.setThreshold(threshold);
        x.setInterval(interval);
        return x;
    }

    private static QueueBlame dynamic(int factor, int... packets) {
        QueueBlame x = withPolicy(3, packets);
        x.setFactor(factor);
        return x;
    }

    private static void fates(String what, QueueBlame x, String due) {
        Check.due(what + ": fates", Sight.fates(x, 63), due);
    }

    private static void drops(String what, QueueBlame x, String due) {
        Check.due(what + ": drops", Sight.drops(x), due);
    }

    private void packets() {
        doc.says("There are six flows, 0 to 5.", () -> {
            QueueBlame x = new QueueBlame();
            for (int flow = 0; flow < 6; flow++) Check.due("record", x.record(0, flow, 1), flow);
            for (int flow = 0; flow < 6; flow++) Check.due("flow", x.packet(flow, 1), flow);
            Check.throwsIndex("flow -1", () -> x.record(0, -1, 1));
            Check.throwsIndex("flow 6", () -> x.record(0, 6, 1));
        });
        doc.says("At most 40 packets are recorded, at first none.", () -> {
            QueueBlame x = new QueueBlame();
            Check.due("packets at first", x.packets(), 0);
            Check.throwsIndex("packet 0 at first", () -> x.packet(0, 0));
            for (int k = 0; k < 40; k++) Check.due("record", x.record(500 - k, k % 6, 1 + k), 0);
            Check.due("packets", x.packets(), 40);
            Check.throwsState("the 41st", () -> x.record(0, 0, 1));
            Check.write(x, "packet 0 0 1;");
            Check.due("the 41st by a script", x.run(), 0);
            Check.due("packets still", x.packets(), 40);
            Check.due("the last of 40", x.packet(39, 0), 500);
        });
        doc.says("A packet has a time (0 to 500), a flow and a size (1 to 100).", () -> {
            QueueBlame x = new QueueBlame();
            Check.due("the least", x.record(0, 0, 1), 0);
            Check.due("the greatest", x.record(500, 5, 100), 1);
            int[] due = {0, 0, 1, 500, 5, 100};
            for (int k = 0; k < 6; k++) Check.due("property", x.packet(k / 3, k % 3), due[k]);
            Check.throwsArgument("time -1", () -> x.record(-1, 0, 1));
            Check.throwsArgument("time 501", () -> x.record(501, 0, 1));
            Check.throwsArgument("size 0", () -> x.record(0, 0, 0));
            Check.throwsArgument("size 101", () -> x.record(0, 0, 101));
        });
        doc.says("The packets are numbered from 0 by ascending times, and for equal times in the order in which they "
            + "were recorded.", () -> {
            QueueBlame x = new QueueBlame();
            Check.due("the first", x.record(7, 0, 1), 0);
            Check.due("the same time", x.record(7, 0, 2), 1);
            Check.due("one tick earlier", x.record(6, 0, 3), 0);
            Check.due("one tick later", x.record(8, 0, 4), 3);
            Check.due("the same time again", x.record(7, 0, 5), 3);
            Check.due("the earliest time's second", x.record(6, 0, 6), 1);
            int[] sizes = {3, 6, 1, 2, 5, 4};
            for (int p = 0; p < 6; p++) Check.due("size of " + p, x.packet(p, 2), sizes[p]);
            QueueBlame equal = new QueueBlame();
            for (int k = 0; k < 40; k++) Check.due("equal times", equal.record(0, 0, 40 - k), k);
            for (int p = 0; p < 40; p++) Check.due("size of " + p, equal.packet(p, 2), 40 - p);
            equal.erase(5);
            Check.due("an erased one is recorded again at the end", equal.record(0, 0, 99), 39);
        });
        doc.says("When a packet is recorded, the numbers of those behind it increase by 1.", () -> {
            QueueBlame x = new QueueBlame();
            for (int k = 0; k < 38; k++) x.record(10 * k, k % 6, 1 + k);
            Check.due("before all", x.record(0, 5, 100) + x.record(0, 4, 99), 1 + 2);
            Check.due("the first stays", x.packet(0, 2), 1);
            Check.due("the new one", x.packet(1, 2), 100);
            for (int k = 1; k < 38; k++) Check.due("those behind it", x.packet(k + 2, 2), 1 + k);
            x.undo();
            Check.due("behind all", x.record(500, 0, 77), 39);
            for (int k = 1; k < 38; k++) Check.due("none is behind it", x.packet(k + 1, 2), 1 + k);
        });
    }

    private void settings() {
        doc.says("The queue has a capacity (1 to 1000, 100 at first) and a rate (1 to 100, 10 at first), a policy "
            + "(0 to 4, at first 0), a scheduler (0 to 2, at first 0), a factor (1 to 16, 4 at first), a threshold "
            + "(0 to 1000, 50 at first) and an interval (2 to 9, 3 at first).", () -> {
            QueueBlame x = new QueueBlame();
            Check.due("capacity", x.setCapacity(1) + x.setCapacity(1000), 100 + 1);
            Check.due("rate", x.setRate(1) + x.setRate(100), 10 + 1);
            Check.due("policy", x.setPolicy(4) + x.setPolicy(0), 0 + 4);
            Check.due("scheduler", x.setScheduler(2) + x.setScheduler(0), 0 + 2);
            Check.due("factor", x.setFactor(1) + x.setFactor(16), 4 + 1);
            Check.due("threshold", x.setThreshold(0) + x.setThreshold(1000), 50 + 0);
            Check.due("interval", x.setInterval(2) + x.setInterval(9), 3 + 2);
            fates("at first", Check.with(0, 0, 100, 0, 1, 1), "9 -2");
            QueueBlame least = Check.with(0, 0, 1, 0, 1, 1, 1, 2, 1, 2, 3, 2);
            least.setCapacity(1);
            least.setRate(1);
            fates("the least capacity and rate", least, "0 -2 1 -2");
            QueueBlame most = new QueueBlame();
            for (int k = 0; k < 10; k++) most.record(0, k % 6, 100);
            most.record(0, 0, 1);
            most.setCapacity(1000);
            most.setRate(100);
            fates("the greatest capacity and rate", most, "0 1 2 3 4 5 6 7 8 9 -2");
        });
        doc.says("Each flow has a priority (0 to 9, 5 at first).", () -> {
            QueueBlame x = new QueueBlame();
            for (int flow = 0; flow < 6; flow++) Check.due("at first", x.setPriority(flow, 0), 5);
            for (int flow = 0; flow < 6; flow++) Check.due("the least", x.setPriority(flow, 9), 0);
            for (int flow = 0; flow < 6; flow++) Check.due("the greatest", x.setPriority(flow, flow), 9);
            for (int flow = 0; flow < 6; flow++) Check.due("its own", x.setPriority(flow, 5), flow);
        });
    }

    private void replays() {
        doc.says("A replay with a set of flows uses the recorded packets of these flows alone.", () -> {
            QueueBlame x = new QueueBlame();
            for (int flow = 0; flow < 6; flow++) x.record(0, flow, 10 + flow);
            x.setRate(1);
            for (int set = 0; set < 64; set++) {
                StringBuilder due = new StringBuilder();
                int sent = -1;
                for (int flow = 0; flow < 6; flow++) {
                    boolean in = (set & 1 << flow) != 0;
                    sent += in ? 10 + flow : 0;
                    due.append(flow == 0 ? "" : " ").append(in ? sent : -3);
                }
                Check.due("set " + set, Sight.fates(x, set), due.toString());
                // The object would answer more than 512 calls otherwise.
                if (set % 32 == 31) x = again(x);
            }
        });
        doc.says("It begins with an empty queue and goes on from tick 0 until all packets have arrived and the queue "
            + "is empty.", () -> {
            fates("tick 0", Check.with(0, 0, 10), "0");
            fates("an empty queue between", Check.with(0, 0, 5, 250, 1, 5, 500, 2, 5), "0 250 500");
            QueueBlame twice = Check.with(0, 0, 100);
            fates("once", twice, "9");
            fates("twice", twice, "9");
            Check.due("nothing at all", Check.with().replay(63), 0);
            QueueBlame last = new QueueBlame();
            for (int k = 0; k < 10; k++) last.record(500, 0, 100);
            last.setCapacity(1000);
            last.setRate(1);
            fates("long behind the last arrival", last, "599 699 799 899 999 1099 1199 1299 1399 1499");
            Check.due("one byte is left", last.loadAt(1498), 1);
            Check.due("none is left", last.loadAt(1499), 0);
        });
        doc.says("In each tick, first the packets with this time arrive, in the order of their numbers, and then the "
            + "queue is served.", () -> {
            fates("no serving before the arrival", Check.with(0, 0, 100, 1, 1, 11), "9 -2");
            fates("just room enough", Check.with(0, 0, 100, 1, 1, 10), "9 10");
            fates("no serving between arrivals", Check.with(0, 0, 100, 1, 1, 5, 1, 1, 6, 1, 1, 5), "9 10 -2 10");
            fates("by their numbers", Check.with(3, 5, 60, 3, 0, 60, 3, 1, 40), "8 -2 12");
            fates("served in the same tick", Check.with(7, 0, 10), "7");
        });
    }

    private static QueueBlame again(QueueBlame x) {
        QueueBlame y = new QueueBlame();
        for (int p = 0; p < x.packets(); p++) y.record(x.packet(p, 0), x.packet(p, 1), x.packet(p, 2));
        y.setRate(1);
        return y;
    }

    private void arrivals() {
        doc.says("A packet that is accepted joins the end of the queue; at first all its bytes remain.", () -> {
            QueueBlame x = Check.with(0, 5, 15, 0, 1, 15, 1, 0, 15);
            fates("the end of the queue", x, "1 2 4");
            Check.due("all bytes of two packets but 10", x.loadAt(0), 20);
            Check.due("all bytes of the third", x.loadAt(1), 25);
        });
        doc.says("The load is the sum of the remaining bytes of all packets in the queue.", () -> {
            QueueBlame x = Check.with(0, 0, 60, 0, 1, 40, 1, 2, 10, 1, 3, 1);
            fates("room by the bytes that were sent", x, "5 9 10 -2");
            Check.due("load", x.loadAt(0), 90);
            Check.due("load", x.loadAt(1), 90);
            Check.due("load", x.loadAt(2), 80);
        });
        doc.says("A packet has begun if some but not all of its bytes remain.", () -> {
            fates("all remain", withPolicy(1, 0, 0, 100, 0, 1, 1), "-2 0");
            QueueBlame one = withPolicy(1, 0, 0, 100, 1, 1, 2);
            one.setRate(1);
            fates("one byte was sent", one, "99 -2");
            QueueBlame left = withPolicy(1, 0, 0, 100, 1, 1, 100);
            left.setRate(99);
            fates("one byte is left", left, "1 -2");
            QueueBlame none = withPolicy(1, 0, 0, 100, 1, 1, 100);
            none.setRate(100);
            fates("none is left", none, "0 1");
            QueueBlame next = withPolicy(1, 0, 0, 50, 0, 1, 50, 1, 2, 60);
            next.setRate(50);
            fates("the next one has not begun", next, "0 -2 2");
        });
        doc.says("If s is greater than the capacity, it is dropped.", () -> {
            for (int policy = 0; policy < 5; policy++) {
                QueueBlame x = withPolicy(policy, 0, 0, 30, 0, 1, 51, 9, 2, 50, 20, 2, 51);
                x.setCapacity(50);
                x.setFactor(16);
                fates("policy " + policy, x, "2 -2 13 -2");
                drops("no other is dropped for it by policy " + policy, x, "1 3");
            }
            QueueBlame counted = early(0, 2, 0, 0, 51, 0, 1, 5, 0, 1, 5);
            counted.setCapacity(50);
            fates("it is not counted", counted, "-2 0 -2");
        });
        doc.says("If it is not dropped, it is accepted.", () -> {
            for (int policy = 0; policy < 5; policy++) {
                fates("policy " + policy, withPolicy(policy, 3, 2, 1), "3");
                fates("a whole queue by policy " + policy, withPolicy(policy, 500, 5, 100), "509");
            }
        });
    }

    private void droppingByRoom() {
        doc.says("0 (tail drop) It is dropped if the load plus s is greater than the capacity.", () -> {
            fates("just full", Check.with(0, 0, 60, 0, 1, 40), "5 9");
            fates("one byte too much", Check.with(0, 0, 60, 0, 1, 41), "5 -2");
            fates("a smaller one behind it", Check.with(0, 0, 60, 0, 1, 41, 0, 2, 40), "5 -2 9");
            fates("full", Check.with(0, 0, 100, 0, 1, 1), "9 -2");
        });
        doc.says("1 (head drop) As long as the load plus s is greater than the capacity, the first packet in the queue "
            + "that has not begun is dropped; if there is none, the arriving packet is dropped.", () -> {
            fates("just full", withPolicy(1, 0, 0, 60, 0, 1, 40), "5 9");
            fates("one byte too much", withPolicy(1, 0, 0, 60, 0, 1, 41), "-2 4");
            drops("as many as needed", withPolicy(1, 0, 0, 30, 0, 1, 30, 0, 2, 30, 0, 3, 70), "0 1");
            drops("all", withPolicy(1, 0, 0, 30, 0, 1, 30, 0, 2, 30, 0, 3, 100), "0 1 2");
            fates("behind the begun one", withPolicy(1, 0, 0, 50, 0, 1, 50, 1, 2, 30), "4 -2 7");
            QueueBlame middle = withPolicy(1, 0, 0, 50, 0, 1, 50, 1, 2, 30);
            middle.setScheduler(1);
            middle.setPriority(1, 0);
            fates("before the begun one", middle, "-2 4 7");
            fates("none but the begun one", withPolicy(1, 0, 0, 100, 1, 1, 11), "9 -2");
            fates("room beside the begun one", withPolicy(1, 0, 0, 100, 1, 1, 10), "9 10");
            drops("none any more", withPolicy(1, 0, 0, 60, 0, 1, 40, 1, 2, 100), "1 2");
        });
    }

    private static QueueBlame tens(int size) {
        QueueBlame x = withPolicy(2, 0, 0, 10, 0, 0, 10, 0, 0, 10, 0, 0, 10, 0, 1, 10, 0, 1, 10, 0, 1, 10);
        for (int k = 0; k < 3; k++) x.record(0, 2, 10);
        x.record(0, 3, size);
        return x;
    }

    private void droppingByFlow() {
        doc.says("2 (longest flow) As long as the load plus s is greater than the capacity, a victim flow is chosen: the "
            + "amount of a flow is the sum of the sizes of its packets in the queue that have not begun, plus s for the "
            + "flow of the arriving packet; the victim flow is the one with the greatest amount, of several the one "
            + "with the lowest number.", () -> {
            fates("just full", withPolicy(2, 0, 0, 60, 0, 1, 40), "5 9");
            drops("the sum of the sizes", withPolicy(2, 0, 0, 30, 0, 0, 30, 0, 1, 40, 0, 2, 1), "1");
            drops("the sum with s", withPolicy(2, 0, 0, 60, 0, 1, 30, 0, 1, 31), "2");
            drops("of equal ones the lowest", withPolicy(2, 0, 0, 60, 0, 1, 30, 0, 1, 30), "0");
            drops("of equal ones the arriving", withPolicy(2, 0, 1, 60, 0, 0, 60), "1");
            drops("of three equal ones the lowest", withPolicy(2, 0, 5, 40, 0, 2, 40, 0, 4, 20, 0, 3, 40), "1");
            drops("the highest flow", withPolicy(2, 0, 0, 49, 0, 5, 50, 0, 1, 2), "1");
            fates("without the begun one", withPolicy(2, 0, 0, 100, 1, 1, 20), "9 -2");
            drops("without the begun one of two", withPolicy(2, 0, 0, 60, 0, 0, 15, 0, 1, 25, 1, 2, 20), "2");
            drops("in every round anew", tens(25), "3 2 6");
            drops("no more rounds than needed", tens(10), "3");
            drops("at last the arriving", tens(35), "3 10");
        });
        doc.says("If it is the flow of the arriving packet, this packet is dropped; otherwise the last packet of the "
            + "victim flow in the queue that has not begun is dropped.", () -> {
            fates("not the older one of its flow", withPolicy(2, 0, 0, 60, 0, 0, 41), "5 -2");
            drops("the last one", withPolicy(2, 0, 0, 30, 0, 0, 20, 0, 1, 30, 0, 0, 15, 0, 2, 6), "3");
            drops("the only one", withPolicy(2, 0, 3, 100, 0, 2, 99), "0");
            QueueBlame most = withPolicy(2);
            for (int k = 0; k < 39; k++) most.record(0, k < 26 ? 1 : 2, 1);
            most.record(0, 0, 1);
            most.setCapacity(39);
            drops("the last one of 26 among 39", most, "25");
            Check.due("the one behind it is sent in its turn", most.fate(26), 2);
            fates("the last one behind a begun one", withPolicy(2, 0, 0, 20, 0, 0, 50, 0, 1, 30, 1, 2, 20), "1 -2 4 6");
        });
        doc.says("3 (dynamic threshold) It is dropped if the load plus s is greater than the capacity, or if 4 * (the "
            + "sum of the remaining bytes of the packets of its flow in the queue, plus s) is greater than the factor * "
            + "(the capacity minus the load).", () -> {
            fates("just full", dynamic(16, 0, 0, 60, 0, 1, 40), "5 9");
            fates("one byte too much", dynamic(16, 0, 0, 60, 0, 1, 41), "5 -2");
            fates("factor 1: 4 * 25 and 100", dynamic(1, 0, 0, 25), "2");
            fates("factor 1: 4 * 26 and 100", dynamic(1, 0, 0, 26), "-2");
            fates("factor 3: 4 * 75 and 300", dynamic(3, 0, 0, 75), "7");
            fates("factor 3: 4 * 76 and 300", dynamic(3, 0, 0, 76), "-2");
            fates("factor 4: 4 * (30 + 20) and 4 * 70", dynamic(4, 0, 0, 30, 0, 0, 40), "2 6");
            fates("factor 4: 4 * (30 + 41) and 4 * 70", dynamic(4, 0, 0, 30, 0, 0, 41), "2 -2");
            fates("factor 16: 4 * (79 + 5) and 16 * 21", dynamic(16, 0, 0, 79, 0, 0, 5), "7 8");
            fates("factor 16: 4 * (79 + 6) and 16 * 21", dynamic(16, 0, 0, 79, 0, 0, 6), "7 -2");
            fates("another flow's bytes", dynamic(4, 0, 0, 50, 0, 1, 50), "4 9");
            fates("40 of 50 remain, 4 * 60 and 4 * 60", dynamic(4, 0, 0, 50, 1, 0, 20), "4 6");
            fates("40 of 50 remain, 4 * 61 and 4 * 60", dynamic(4, 0, 0, 50, 1, 0, 21), "4 -2");
        });
    }

    private void droppingEarly() {
        doc.says("4 (early drop) It is dropped if the load plus s is greater than the capacity.", () -> {
            fates("just full", early(1000, 2, 0, 0, 60, 0, 1, 40), "5 9");
            fates("one byte too much", early(1000, 2, 0, 0, 60, 0, 1, 41), "5 -2");
            fates("it is not counted", early(50, 2, 0, 0, 60, 0, 1, 41, 0, 1, 10, 0, 1, 10), "5 -2 6 -2");
        });
        doc.says("Otherwise, if the load is at least the threshold, it is counted, and dropped if it is the one whose "
            + "count is divisible by the interval.", () -> {
            drops("threshold 49", early(49, 2, 0, 0, 49, 0, 1, 1, 0, 1, 1, 0, 1, 1), "2");
            drops("threshold 50", early(50, 2, 0, 0, 49, 0, 1, 1, 0, 1, 1, 0, 1, 1), "3");
            drops("threshold 51", early(51, 2, 0, 0, 49, 0, 1, 1, 0, 1, 1, 0, 1, 1), "");
            drops("threshold 0", early(0, 2, 0, 0, 1, 0, 0, 1, 0, 0, 1), "1");
            drops("the count goes on", early(50, 2, 0, 0, 60, 0, 0, 1, 20, 0, 60, 20, 0, 1), "3");
            String[] due = {"1 3 5 7 9 11 13 15 17", "2 5 8 11 14 17", "3 7 11 15", "4 9 14", "5 11 17", "6 13", "7 15", "8 17"};
            for (int interval = 2; interval <= 9; interval++) {
                QueueBlame x = early(0, interval);
                for (int k = 0; k < 18; k++) x.record(0, k % 6, 1);
                drops("interval " + interval, x, due[interval - 2]);
            }
            QueueBlame most = early(1000, 2);
            for (int k = 0; k < 10; k++) most.record(0, 0, 100);
            for (int k = 0; k < 3; k++) most.record(0, 0, 1);
            most.setCapacity(1000);
            drops("threshold 1000", most, "10 11 12");
        });
        doc.says("(The count is 0 at the beginning of a replay.)", () -> {
            QueueBlame x = early(0, 3, 0, 0, 1, 0, 1, 1);
            for (int k = 0; k < 4; k++) Check.due("replay", x.replay(63), 0);
            for (int k = 0; k < 4; k++) Check.due("worth", x.worth(63), 0);
            Check.due("replay", x.replay(63), 0);
        });
    }

    private void serving() {
        doc.says("The queue is served like this: as long as fewer bytes than the rate were sent in this tick and the "
            + "queue is not empty, a packet is chosen, and bytes of it are sent: as many as remain, but not more than "
            + "the rate allows in this tick.", () -> {
            fates("just the rate", Check.with(0, 0, 10, 0, 1, 1), "0 1");
            fates("one byte more", Check.with(0, 0, 11, 0, 1, 9), "1 1");
            fates("one byte less", Check.with(0, 0, 9, 0, 1, 1, 0, 2, 1), "0 0 1");
            fates("parts of packets", Check.with(0, 0, 5, 0, 1, 20, 0, 2, 5, 0, 3, 1), "0 2 2 3");
            QueueBlame next = Check.with(0, 0, 5, 0, 1, 20, 1, 2, 1);
            fates("a part, and the next arrival", next, "0 2 2");
            Check.due("no more than the rate in tick 0", next.loadAt(0), 15);
            Check.due("no more than the rate in tick 1", next.loadAt(1), 6);
            fates("nothing is saved for later ticks", Check.with(0, 0, 1, 5, 1, 25), "0 7");
            QueueBlame many = new QueueBlame();
            for (int k = 0; k < 11; k++) many.record(0, k % 6, 1);
            fates("many packets in a tick", many, "0 0 0 0 0 0 0 0 0 0 1");
            QueueBlame fast = Check.with(0, 0, 99, 0, 1, 1, 1, 2, 100);
            fast.setRate(100);
            fates("rate 100", fast, "0 0 1");
        });
        doc.says("If no bytes remain, the packet leaves the queue; this tick is its finish.", () -> {
            fates("its room is free", Check.with(0, 0, 10, 0, 1, 90, 1, 2, 10), "0 9 10");
            fates("it can't be dropped any more", withPolicy(1, 0, 0, 10, 1, 1, 100), "0 10");
            fates("the last byte in the tick", Check.with(0, 0, 20), "1");
            fates("the last byte in the next tick", Check.with(0, 0, 21), "2");
        });
    }

    private void scheduling() {
        doc.says("If there is a packet that has begun, it is chosen.", () -> {
            QueueBlame x = withScheduler(1, 0, 0, 20, 1, 1, 10);
            x.setPriority(1, 0);
            fates("before a better priority", x, "1 2");
            fates("before the next flow", withScheduler(2, 0, 0, 25, 0, 1, 5), "2 2");
            QueueBlame first = withScheduler(1, 0, 0, 10, 0, 1, 20, 1, 0, 10);
            first.setPriority(1, 0);
            fates("before the first", first, "2 1 3");
        });
        doc.says("0 (first in, first out) The first packet in the queue.", () -> {
            QueueBlame x = Check.with(0, 5, 10, 0, 0, 10, 0, 5, 10, 1, 3, 10);
            x.setPriority(0, 0);
            x.setPriority(3, 1);
            fates("neither flow nor priority matters", x, "0 1 2 3");
        });
        doc.says("1 (priorities) The first packet in the queue of the flow with the lowest priority number among the "
            + "flows that have packets in the queue, of several flows the one with the lowest number.", () -> {
            QueueBlame x = withScheduler(1, 0, 4, 10, 0, 2, 10, 0, 4, 10, 0, 2, 10, 0, 3, 10);
            fates("equal priorities", x, "3 0 4 1 2");
            x.setPriority(4, 0);
            x.setPriority(2, 9);
            x.setPriority(3, 9);
            x.setPriority(0, 0);
            fates("0 and 9", x, "0 2 1 3 4");
            x.setPriority(3, 8);
            fates("8 and 9", x, "0 3 1 4 2");
            QueueBlame one = withScheduler(1, 0, 5, 10, 0, 0, 10);
            one.setPriority(5, 4);
            fates("4 and 5", one, "0 1");
        });
        doc.says("2 (round robin) The first packet in the queue of the next flow that has packets in the queue; the "
            + "flows follow each other in a circle in ascending order, beginning behind the flow of the packet that was "
            + "chosen last by the scheduler (at the beginning of a replay with flow 0).", () -> {
            fates("from 5 on to 5", withScheduler(2, 0, 5, 10, 0, 5, 10, 0, 0, 10, 0, 3, 10), "2 3 0 1");
            fates("from 5 on to 0", withScheduler(2, 0, 5, 10, 1, 5, 10, 1, 0, 10), "0 2 1");
            fates("the same flow comes last", withScheduler(2, 0, 2, 10, 0, 2, 10, 0, 1, 10), "1 2 0");
            fates("over empty ticks", withScheduler(2, 0, 2, 10, 50, 1, 10, 50, 3, 10, 50, 2, 10), "0 51 50 52");
            fates("packets count, not bytes", withScheduler(2, 0, 0, 30, 0, 1, 10, 0, 0, 10), "2 3 4");
            QueueBlame x = withScheduler(2, 0, 0, 10, 0, 1, 10, 0, 2, 10, 0, 3, 10, 0, 4, 10, 0, 5, 10, 0, 0, 10);
            fates("all flows", x, "0 1 2 3 4 5 6");
            QueueBlame anew = withScheduler(2, 0, 3, 10, 0, 0, 10);
            fates("once", anew, "1 0");
            fates("twice, from flow 0 again", anew, "1 0");
            Check.due("flow 0 was last in another replay", anew.replay(1), 0);
            fates("thrice", anew, "1 0");
            QueueBlame most = withScheduler(2);
            for (int k = 0; k < 40; k++) most.record(0, k < 30 ? 4 : 5, 1);
            most.setRate(1);
            most.replay(63);
            for (int k = 0; k < 10; k++) Check.due("40 packets, in turns", most.fate(k) + 100 * most.fate(30 + k), 202 * k + 100);
            for (int k = 10; k < 30; k++) Check.due("40 packets, the rest", most.fate(k), 10 + k);
        });
    }
}
