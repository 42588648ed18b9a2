import java.util.ArrayList;
import java.util.Arrays;
import java.util.List;
import java.util.regex.Matcher;
import java.util.regex.Pattern;

/**
 * The document once more, as literally and as slowly as its words: tick by tick, over all 720 orders and
 * all 1000 capacities. Its methods bear the names of the face, so that ModelTest can call both alike.
 */
public final class Model {
    private record Packet(int time, int flow, int size) { }

    private static final class Setup {
        List<Packet> packets = new ArrayList<>();
        int capacity = 100, rate = 10, policy = 0, scheduler = 0, factor = 4, threshold = 50, interval = 3, measure = 0;
        int[] priorities = {5, 5, 5, 5, 5, 5};

        Setup copy() {
            Setup s = new Setup();
            s.packets = new ArrayList<>(packets);
            s.capacity = capacity;
            s.rate = rate;
            s.policy = policy;
            s.scheduler = scheduler;
            s.factor = factor;
            s.threshold = threshold;
            s.interval = interval;
            s.measure = measure;
            s.priorities = priorities.clone();
            return s;
        }
    }

    private static final class Waiting {
        final int number;
        final Packet packet;
        int remaining;

        Waiting(int number, Packet packet) {
            this.number = number;
            this.packet = packet;
            this.remaining = packet.size();
        }

        boolean begun() {
            return remaining > 0 && remaining < packet.size();
        }
    }

    private static final class Run {
        final Setup setup;
        final int[] fates;
        final List<Integer> drops = new ArrayList<>();
        final List<Integer> loads = new ArrayList<>();
        final List<Waiting> queue = new ArrayList<>();
        int count = 0;
        int nextFlow = 0;

        Run(Setup setup, int flows) {
            this.setup = setup;
            fates = new int[setup.packets.size()];
            int left = 0;
            for (int p = 0; p < fates.length; p++) {
                boolean in = (flows & (1 << setup.packets.get(p).flow())) != 0;
                fates[p] = in ? -99 : -3;
                left += in ? 1 : 0;
            }
            for (int tick = 0; left > 0 || !queue.isEmpty(); tick++) {
                for (int p = 0; p < fates.length; p++) {
                    if (fates[p] == -99 && setup.packets.get(p).time() == tick) {
                        left--;
                        arrive(p);
                    }
                }
                serve(tick);
                loads.add(load());
            }
        }

        int load() {
            int sum = 0;
            for (Waiting w : queue) sum += w.remaining;
            return sum;
        }

        void drop(int p) {
            fates[p] = -2;
            drops.add(p);
        }

        void arrive(int p) {
            Packet packet = setup.packets.get(p);
            int s = packet.size();
            boolean dropped = s > setup.capacity;
            if (!dropped) {
                switch (setup.policy) {
                    case 0 -> dropped = load() + s > setup.capacity;
                    case 1 -> dropped = headDrop(s);
                    case 2 -> dropped = longestFlow(packet);
                    case 3 -> {
                        int own = s;
                        for (Waiting w : queue) if (w.packet.flow() == packet.flow()) own += w.remaining;
                        dropped = load() + s > setup.capacity
                            || 4 * own > setup.factor * (setup.capacity - load());
                    }
                    default -> {
                        dropped = load() + s > setup.capacity;
                        if (!dropped && load() >= setup.threshold) {
                            count++;
                            dropped = count % setup.interval == 0;
                        }
                    }
                }
            }
            if (dropped) drop(p); else queue.add(new Waiting(p, packet));
        }

        boolean headDrop(int s) {
            while (load() + s > setup.capacity) {
                Waiting first = null;
                for (Waiting w : queue) if (first == null && !w.begun()) first = w;
                if (first == null) return true;
                queue.remove(first);
                drop(first.number);
            }
            return false;
        }

        boolean longestFlow(Packet packet) {
            while (load() + packet.size() > setup.capacity) {
                int[] amounts = new int[6];
                amounts[packet.flow()] = packet.size();
                for (Waiting w : queue) if (!w.begun()) amounts[w.packet.flow()] += w.packet.size();
                int victim = 0;
                for (int f = 0; f < 6; f++) if (amounts[f] > amounts[victim]) victim = f;
                if (victim == packet.flow()) return true;
                Waiting last = null;
                for (Waiting w : queue) if (!w.begun() && w.packet.flow() == victim) last = w;
                queue.remove(last);
                drop(last.number);
            }
            return false;
        }

        void serve(int tick) {
            int sent = 0;
            while (sent < setup.rate && !queue.isEmpty()) {
                Waiting chosen = null;
                for (Waiting w : queue) if (w.begun()) chosen = w;
                if (chosen == null) chosen = schedule();
                int bytes = Math.min(chosen.remaining, setup.rate - sent);
                chosen.remaining -= bytes;
                sent += bytes;
                if (chosen.remaining == 0) {
                    queue.remove(chosen);
                    fates[chosen.number] = tick;
                }
            }
        }

        Waiting firstOf(int flow) {
            for (Waiting w : queue) if (w.packet.flow() == flow) return w;
            return null;
        }

        Waiting schedule() {
            if (setup.scheduler == 0) return queue.get(0);
            if (setup.scheduler == 1) {
                for (int priority = 0; priority < 10; priority++) {
                    for (int f = 0; f < 6; f++) {
                        if (setup.priorities[f] == priority && firstOf(f) != null) return firstOf(f);
                    }
                }
            }
            while (firstOf(nextFlow) == null) nextFlow = (nextFlow + 1) % 6;
            Waiting chosen = firstOf(nextFlow);
            nextFlow = (nextFlow + 1) % 6;
            return chosen;
        }

        int measure(int victim) {
            int sum = 0;
            for (int p = 0; p < fates.length; p++) {
                Packet packet = setup.packets.get(p);
                if (victim != -1 && packet.flow() != victim) continue;
                if (setup.measure == 0 && fates[p] == -2) sum++;
                if (setup.measure == 1 && fates[p] == -2) sum += packet.size();
                if (setup.measure == 2 && fates[p] >= 0) sum += fates[p] - packet.time();
            }
            return sum;
        }
    }

    private Setup now = new Setup();
    private final List<Setup> saved = new ArrayList<>();
    private Run latest = null;
    private String text = "";

    private void save() {
        saved.add(now.copy());
        if (saved.size() > 8) saved.remove(0);
    }

    private static void index(boolean right) {
        if (!right) throw new IndexOutOfBoundsException();
    }

    private static void argument(boolean right) {
        if (!right) throw new IllegalArgumentException();
    }

    private static boolean between(int value, int low, int high) {
        return value >= low && value <= high;
    }

    private static boolean flowExists(int flow) {
        return between(flow, 0, 5);
    }

    private boolean packetExists(int packet) {
        return between(packet, 0, now.packets.size() - 1);
    }

    public int record(int time, int flow, int size) {
        index(flowExists(flow));
        argument(between(time, 0, 500) && between(size, 1, 100));
        if (now.packets.size() == 40) throw new IllegalStateException();
        save();
        int place = 0;
        for (Packet p : now.packets) if (p.time() <= time) place++;
        now.packets.add(place, new Packet(time, flow, size));
        return place;
    }

    public int erase(int packet) {
        index(packetExists(packet));
        save();
        now.packets.remove(packet);
        return now.packets.size();
    }

    public int packets() {
        return now.packets.size();
    }

    public int packet(int packet, int what) {
        index(packetExists(packet));
        argument(between(what, 0, 2));
        Packet p = now.packets.get(packet);
        return what == 0 ? p.time() : what == 1 ? p.flow() : p.size();
    }

    public int setCapacity(int value) {
        argument(between(value, 1, 1000));
        save();
        int old = now.capacity;
        now.capacity = value;
        return old;
    }

    public int setRate(int value) {
        argument(between(value, 1, 100));
        save();
        int old = now.rate;
        now.rate = value;
        return old;
    }

    public int setPolicy(int value) {
        argument(between(value, 0, 4));
        save();
        int old = now.policy;
        now.policy = value;
        return old;
    }

    public int setScheduler(int value) {
        argument(between(value, 0, 2));
        save();
        int old = now.scheduler;
        now.scheduler = value;
        return old;
    }

    public int setFactor(int value) {
        argument(between(value, 1, 16));
        save();
        int old = now.factor;
        now.factor = value;
        return old;
    }

    public int setThreshold(int value) {
        argument(between(value, 0, 1000));
        save();
        int old = now.threshold;
        now.threshold = value;
        return old;
    }

    public int setInterval(int value) {
        argument(between(value, 2, 9));
        save();
        int old = now.interval;
        now.interval = value;
        return old;
    }

    public int setMeasure(int value) {
        argument(between(value, 0, 2));
        save();
        int old = now.measure;
        now.measure = value;
        return old;
    }

    public int setPriority(int flow, int value) {
        index(flowExists(flow));
        argument(between(value, 0, 9));
        save();
        int old = now.priorities[flow];
        now.priorities[flow] = value;
        return old;
    }

    public int replay(int flows) {
        argument(between(flows, 0, 63));
        latest = new Run(now.copy(), flows);
        return latest.drops.size();
    }

    public int fate(int packet) {
        return latest == null || !between(packet, 0, latest.fates.length - 1) ? -1 : latest.fates[packet];
    }

    public int loadAt(int tick) {
        if (latest == null || tick < 0) return -1;
        return tick < latest.loads.size() ? latest.loads.get(tick) : 0;
    }

    public int peak() {
        if (latest == null) return -1;
        int peak = 0;
        for (int load : latest.loads) peak = Math.max(peak, load);
        return peak;
    }

    public int dropped(int k) {
        return latest == null || !between(k, 0, latest.drops.size() - 1) ? -1 : latest.drops.get(k);
    }

    private int v(int flows, int victim) {
        return new Run(now, flows).measure(victim);
    }

    private int[] table(int victim) {
        int[] table = new int[64];
        for (int s = 0; s < 64; s++) table[s] = v(s, victim);
        return table;
    }

    public int worth(int flows) {
        argument(between(flows, 0, 63));
        return v(flows, -1);
    }

    public int worthFor(int flows, int victim) {
        index(flowExists(victim));
        argument(between(flows, 0, 63));
        return v(flows, victim);
    }

    public int contribution(int flow, int flows) {
        index(flowExists(flow));
        argument(between(flows, 0, 63) && (flows & (1 << flow)) == 0);
        return v(flows + (1 << flow), -1) - v(flows, -1);
    }

    private static int overOrders(int[] table, int flow, int before, boolean passed) {
        if (before == 63 || passed) {
            int left = 6 - Integer.bitCount(before);
            int orders = 1;
            for (int k = 2; k <= left; k++) orders *= k;
            return passed ? orders * (table[before] - table[before - (1 << flow)]) : 0;
        }
        int sum = 0;
        for (int next = 0; next < 6; next++) {
            if ((before & (1 << next)) == 0) sum += overOrders(table, flow, before + (1 << next), next == flow);
        }
        return sum;
    }

    private static int fraction(int numerator, int denominator, int part) {
        int n = numerator;
        int d = denominator;
        for (int k = denominator; k > 1; k--) {
            if (n % k == 0 && d % k == 0) {
                n /= k;
                d /= k;
            }
        }
        return part == 0 ? n : d;
    }

    public int blame(int flow, int part) {
        index(flowExists(flow));
        argument(between(part, 0, 1));
        return fraction(overOrders(table(-1), flow, 0, false), 720, part);
    }

    public int blameFor(int flow, int victim, int part) {
        index(flowExists(flow) && flowExists(victim));
        argument(between(part, 0, 1));
        return fraction(overOrders(table(victim), flow, 0, false), 720, part);
    }

    public int index(int flow, int part) {
        index(flowExists(flow));
        argument(between(part, 0, 1));
        int[] table = table(-1);
        int sum = 0;
        for (int s = 0; s < 64; s++) {
            if ((s & (1 << flow)) == 0) sum += table[s + (1 << flow)] - table[s];
        }
        return fraction(sum, 32, part);
    }

    public int interaction(int one, int other, int part) {
        index(flowExists(one) && flowExists(other));
        argument(one != other && between(part, 0, 1));
        int[] table = table(-1);
        int a = 1 << one;
        int b = 1 << other;
        int sum = 0;
        for (int s = 0; s < 64; s++) {
            if ((s & (a + b)) == 0) sum += table[s + a + b] - table[s + a] - table[s + b] + table[s];
        }
        return fraction(sum, 16, part);
    }

    public int ranked(int rank) {
        index(between(rank, 0, 5));
        int[] table = table(-1);
        List<Integer> flows = new ArrayList<>(Arrays.asList(0, 1, 2, 3, 4, 5));
        flows.sort((x, y) -> overOrders(table, y, 0, false) - overOrders(table, x, 0, false));
        return flows.get(rank);
    }

    public int sampled(int flow, int orders, int start) {
        index(flowExists(flow));
        argument(between(orders, 1, 100) && start >= 0);
        int[] table = table(-1);
        long x = start;
        int sum = 0;
        for (int k = 0; k < orders; k++) {
            int[] order = {0, 1, 2, 3, 4, 5};
            for (int i = 5; i >= 1; i--) {
                x = (1103515245L * x + 12345L) % (1L << 31);
                int j = (int) (x / 65536 % (i + 1));
                int t = order[i];
                order[i] = order[j];
                order[j] = t;
            }
            int before = 0;
            for (int i = 0; order[i] != flow; i++) before += 1 << order[i];
            sum += table[before + (1 << flow)] - table[before];
        }
        return sum;
    }

    private List<Integer> smallestCauses(int packet) {
        List<Integer> best = new ArrayList<>();
        for (int set = 0; set < 64; set++) {
            if ((set & (1 << now.packets.get(packet).flow())) != 0) continue;
            if (new Run(now, 63 - set).fates[packet] == -2) continue;
            if (!best.isEmpty() && Integer.bitCount(set) < Integer.bitCount(best.get(0))) best.clear();
            if (best.isEmpty() || Integer.bitCount(set) == Integer.bitCount(best.get(0))) best.add(set);
        }
        return best;
    }

    public int cause(int packet) {
        index(packetExists(packet));
        if (new Run(now, 63).fates[packet] != -2) return 0;
        List<Integer> causes = smallestCauses(packet);
        return causes.isEmpty() ? -1 : causes.get(0);
    }

    public int suspects(int packet) {
        index(packetExists(packet));
        if (new Run(now, 63).fates[packet] != -2) return 0;
        int union = 0;
        for (int set : smallestCauses(packet)) union |= set;
        return union;
    }

    public int capacityFor(int drops) {
        argument(drops >= 0);
        Setup setup = now.copy();
        for (int c = 1; c <= 1000; c++) {
            setup.capacity = c;
            if (new Run(setup, 63).drops.size() <= drops) return c;
        }
        return -1;
    }

    public int bestPolicy() {
        Setup setup = now.copy();
        int best = -1;
        int least = Integer.MAX_VALUE;
        for (int p = 4; p >= 0; p--) {
            setup.policy = p;
            int measure = new Run(setup, 63).measure(-1);
            if (measure <= least) {
                least = measure;
                best = p;
            }
        }
        return best;
    }

    public int type(int c) {
        argument(between(c, 32, 126));
        if (text.length() == 120) throw new IllegalStateException();
        text += (char) c;
        return text.length();
    }

    public int clearText() {
        int length = text.length();
        text = "";
        return length;
    }

    private static final Pattern TOKEN = Pattern.compile(" *(?:([a-z]+)|([0-9]+)|(;)|(.)|$)");

    /** Reads the text by its tokens; puts the commands as lists of words into the list. */
    private int read(List<List<String>> commands) {
        List<String> names = List.of("packet", "capacity", "rate", "policy", "scheduler", "priority", "measure");
        int[] counts = {3, 1, 1, 1, 1, 2, 1};
        List<String> open = new ArrayList<>();
        Matcher m = TOKEN.matcher(text);
        int at = 0;
        while (at < text.length() && m.find(at)) {
            at = m.end();
            if (m.group(1) != null) {
                if (!open.isEmpty() || !names.contains(m.group(1))) return m.start(1);
                open.add(m.group(1));
            } else if (m.group(2) != null) {
                if (open.isEmpty() || open.size() > counts[names.indexOf(open.get(0))]) return m.start(2);
                if (m.group(2).length() > 4) return m.start(2);
                open.add(m.group(2));
            } else if (m.group(3) != null) {
                if (open.isEmpty() || open.size() <= counts[names.indexOf(open.get(0))]) return m.start(3);
                commands.add(new ArrayList<>(open));
                open.clear();
            } else if (m.group(4) != null) {
                return m.start(4);
            }
        }
        return open.isEmpty() ? -1 : text.length();
    }

    public int fault() {
        return read(new ArrayList<>());
    }

    public int run() {
        List<List<String>> commands = new ArrayList<>();
        argument(read(commands) == -1);
        Setup before = now.copy();
        List<Setup> savedBefore = new ArrayList<>(saved);
        int done = 0;
        for (List<String> command : commands) {
            int[] n = new int[3];
            for (int k = 1; k < command.size(); k++) n[k - 1] = Integer.parseInt(command.get(k));
            try {
                switch (command.get(0)) {
                    case "packet" -> record(n[0], n[1], n[2]);
                    case "capacity" -> setCapacity(n[0]);
                    case "rate" -> setRate(n[0]);
                    case "policy" -> setPolicy(n[0]);
                    case "scheduler" -> setScheduler(n[0]);
                    case "priority" -> setPriority(n[0], n[1]);
                    default -> setMeasure(n[0]);
                }
                done++;
            } catch (IndexOutOfBoundsException | IllegalArgumentException | IllegalStateException e) {
                // skipped
            }
        }
        saved.clear();
        saved.addAll(savedBefore);
        saved.add(before);
        if (saved.size() > 8) saved.remove(0);
        return done;
    }

    public int undo() {
        if (saved.isEmpty()) throw new IllegalStateException();
        now = saved.remove(saved.size() - 1);
        return saved.size();
    }

    public long checksum() {
        List<Integer> all = new ArrayList<>();
        all.add(now.packets.size());
        for (Packet p : now.packets) all.addAll(List.of(p.time(), p.flow(), p.size()));
        all.addAll(List.of(now.capacity, now.rate, now.policy, now.scheduler));
        all.addAll(List.of(now.factor, now.threshold, now.interval, now.measure));
        for (int p : now.priorities) all.add(p);
        for (int w : table(-1)) all.add(w);
        all.add(text.length());
        all.add(saved.size());
        long h = 18505;
        for (int v : all) h = 31 * h + v;
        return h;
    }
}
