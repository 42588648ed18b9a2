/**
 * An analyser of packet drops in a queue: recorded packets of six flows are replayed through a queue,
 * also with some flows left out, and the drops are attributed to the flows.
 */
public final class QueueBlame {
    public static final int NONE = -1;

    private static final int FLOWS = 6;
    private static final int SETS = 64;
    private static final int ALL_FLOWS = 63;
    private static final int MOST_PACKETS = 40;
    private static final int LAST_TIME = 500;
    private static final int GREATEST_SIZE = 100;
    private static final int GREATEST_CAPACITY = 1000;
    private static final int MOST_SAVED = 8;
    private static final int MOST_ORDERS = 100;
    private static final int ORDERS = 720;

    private static final int MOST_CHARACTERS = 120;
    private static final int FIRST_CODE = 32;
    private static final int LAST_CODE = 126;
    private static final int MOST_DIGITS = 4;
    private static final int MOST_NUMBERS = 3;

    private static final int DROPPED = -2;
    private static final int LEFT_OUT = -3;

    // The places of the settings stand in the order in which the checksum takes them.
    private static final int CAPACITY = 0;
    private static final int RATE = 1;
    private static final int POLICY = 2;
    private static final int SCHEDULER = 3;
    private static final int FACTOR = 4;
    private static final int THRESHOLD = 5;
    private static final int INTERVAL = 6;
    private static final int MEASURE = 7;
    private static final int FIRST_PRIORITY = 8;
    private static final int SETTINGS = 14;
    private static final int[] INITIAL = {100, 10, 0, 0, 4, 50, 3, 0, 5, 5, 5, 5, 5, 5};
    private static final int[] LOWEST = {1, 1, 0, 0, 1, 0, 2, 0, 0, 0, 0, 0, 0, 0};
    private static final int[] HIGHEST = {1000, 100, 4, 2, 16, 1000, 9, 2, 9, 9, 9, 9, 9, 9};

    private static final int POLICIES = 5;
    private static final int HEAD_DROP = 1;
    private static final int LONGEST_FLOW = 2;
    private static final int DYNAMIC_THRESHOLD = 3;
    private static final int EARLY_DROP = 4;
    private static final int FIRST_IN_FIRST_OUT = 0;
    private static final int BY_PRIORITIES = 1;
    private static final int DROPPED_PACKETS = 0;
    private static final int DROPPED_BYTES = 1;

    // How many of the 720 orders have just a given set of k flows before a given flow: k! * (5 - k)!.
    private static final int[] ORDERS_BY_FLOWS_BEFORE = {120, 24, 12, 12, 24, 120};

    private static final Command[] COMMANDS = Command.values();

    private final Recording recording = new Recording();
    private final History history = new History();
    private final Replayer latest = new Replayer(recording);
    private final Replayer trial = new Replayer(recording);
    private final Script script = new Script();
    private final int[] worths = new int[SETS];
    private final int[] blames = new int[FLOWS];
    private final int[] order = new int[FLOWS];

    public QueueBlame() {
    }

    // ---- packets and settings

    public int record(int time, int flow, int size)
            throws IndexOutOfBoundsException, IllegalArgumentException, IllegalStateException {
        requireFlow(flow);
        if (!isPacket(time, flow, size)) {
            throw new IllegalArgumentException("time or size is out of range");
        }
        if (recording.isFull()) {
            throw new IllegalStateException("there are 40 packets");
        }
        history.save(recording);
        return recording.insert(time, flow, size);
    }

    public int erase(int packet) throws IndexOutOfBoundsException {
        requirePacket(packet);
        history.save(recording);
        recording.delete(packet);
        return recording.count;
    }

    public int packets() {
        return recording.count;
    }

    public int packet(int packet, int what) throws IndexOutOfBoundsException, IllegalArgumentException {
        requirePacket(packet);
        switch (what) {
            case 0:
                return recording.times[packet];
            case 1:
                return recording.flows[packet];
            case 2:
                return recording.sizes[packet];
            default:
                throw new IllegalArgumentException("what is not 0 to 2");
        }
    }

    public int setCapacity(int value) throws IllegalArgumentException {
        return change(CAPACITY, value);
    }

    public int setRate(int value) throws IllegalArgumentException {
        return change(RATE, value);
    }

    public int setPolicy(int value) throws IllegalArgumentException {
        return change(POLICY, value);
    }

    public int setScheduler(int value) throws IllegalArgumentException {
        return change(SCHEDULER, value);
    }

    public int setFactor(int value) throws IllegalArgumentException {
        return change(FACTOR, value);
    }

    public int setThreshold(int value) throws IllegalArgumentException {
        return change(THRESHOLD, value);
    }

    public int setInterval(int value) throws IllegalArgumentException {
        return change(INTERVAL, value);
    }

    public int setMeasure(int value) throws IllegalArgumentException {
        return change(MEASURE, value);
    }

    public int setPriority(int flow, int value) throws IndexOutOfBoundsException, IllegalArgumentException {
        requireFlow(flow);
        return change(FIRST_PRIORITY + flow, value);
    }

    // ---- replays

    public int replay(int flows) throws IllegalArgumentException {
        requireSet(flows);
        latest.play(flows, recording.settings[CAPACITY], recording.settings[POLICY]);
        return latest.outcome.dropCount;
    }

    public int fate(int packet) {
        return latest.outcome.fateOf(packet);
    }

    public int loadAt(int tick) {
        return latest.outcome.loadAfter(tick);
    }

    public int peak() {
        return latest.outcome.greatestLoad();
    }

    public int dropped(int k) {
        return latest.outcome.dropNumbered(k);
    }

    public int worth(int flows) throws IllegalArgumentException {
        requireSet(flows);
        return worthOf(flows, NONE);
    }

    public int worthFor(int flows, int victim) throws IndexOutOfBoundsException, IllegalArgumentException {
        requireFlow(victim);
        requireSet(flows);
        return worthOf(flows, victim);
    }

    // ---- blame

    public int contribution(int flow, int flows) throws IndexOutOfBoundsException, IllegalArgumentException {
        requireFlow(flow);
        requireSet(flows);
        if (contains(flows, flow)) {
            throw new IllegalArgumentException("flows contains the flow");
        }
        return worthOf(flows | 1 << flow, NONE) - worthOf(flows, NONE);
    }

    public int blame(int flow, int part) throws IndexOutOfBoundsException, IllegalArgumentException {
        requireFlow(flow);
        requirePart(part);
        fillWorths(NONE);
        return partOfFraction(sumOverOrders(flow), ORDERS, part);
    }

    public int blameFor(int flow, int victim, int part)
            throws IndexOutOfBoundsException, IllegalArgumentException {
        requireFlow(flow);
        requireFlow(victim);
        requirePart(part);
        fillWorths(victim);
        return partOfFraction(sumOverOrders(flow), ORDERS, part);
    }

    public int index(int flow, int part) throws IndexOutOfBoundsException, IllegalArgumentException {
        requireFlow(flow);
        requirePart(part);
        fillWorths(NONE);
        return partOfFraction(sumOverSets(flow), SETS / 2, part);
    }

    public int interaction(int one, int other, int part)
            throws IndexOutOfBoundsException, IllegalArgumentException {
        requireFlow(one);
        requireFlow(other);
        if (one == other) {
            throw new IllegalArgumentException("both flows are the same");
        }
        requirePart(part);
        fillWorths(NONE);
        return partOfFraction(sumOfInteractions(one, other), SETS / 4, part);
    }

    public int ranked(int rank) throws IndexOutOfBoundsException {
        requireFlow(rank);
        fillWorths(NONE);
        for (int flow = 0; flow < FLOWS; flow++) {
            blames[flow] = sumOverOrders(flow);
        }
        int found = NONE;
        for (int flow = 0; flow < FLOWS; flow++) {
            if (rankByBlames(flow) == rank) {
                found = flow;
            }
        }
        return found;
    }

    public int sampled(int flow, int orders, int start)
            throws IndexOutOfBoundsException, IllegalArgumentException {
        requireFlow(flow);
        if (orders < 1 || orders > MOST_ORDERS || start < 0) {
            throw new IllegalArgumentException("orders or start is out of range");
        }
        fillWorths(NONE);
        long state = start;
        int sum = 0;
        for (int k = 0; k < orders; k++) {
            state = drawOrder(state);
            sum += contributionTo(flowsBefore(flow), flow);
        }
        return sum;
    }

    public int cause(int packet) throws IndexOutOfBoundsException {
        requirePacket(packet);
        return smallestCause(packet);
    }

    public int suspects(int packet) throws IndexOutOfBoundsException {
        requirePacket(packet);
        int smallest = smallestCause(packet);
        if (smallest == NONE || smallest == 0) {
            return 0;
        }
        int union = smallest;
        for (int set = smallest + 1; set < SETS; set++) {
            if (Integer.bitCount(set) == Integer.bitCount(smallest) && isCause(set, packet)) {
                union |= set;
            }
        }
        return union;
    }

    public int capacityFor(int drops) throws IllegalArgumentException {
        if (drops < 0) {
            throw new IllegalArgumentException("drops is not 0 or more");
        }
        int capacity = 1;
        while (capacity <= GREATEST_CAPACITY) {
            trial.play(ALL_FLOWS, capacity, recording.settings[POLICY]);
            if (trial.outcome.dropCount <= drops) {
                return capacity;
            }
            // More capacity may also mean more drops, so nothing but equal replays is jumped over.
            capacity = Math.max(capacity + 1, trial.nextCapacity);
        }
        return NONE;
    }

    public int bestPolicy() {
        int best = 0;
        int least = 0;
        for (int policy = 0; policy < POLICIES; policy++) {
            trial.play(ALL_FLOWS, recording.settings[CAPACITY], policy);
            int measured = trial.measureFor(NONE);
            if (policy == 0 || measured < least) {
                best = policy;
                least = measured;
            }
        }
        return best;
    }

    // ---- texts, undo

    public int type(int c) throws IllegalArgumentException, IllegalStateException {
        if (c < FIRST_CODE || c > LAST_CODE) {
            throw new IllegalArgumentException("c is out of range");
        }
        if (script.isFull()) {
            throw new IllegalStateException("the text has 120 characters");
        }
        script.append(c);
        return script.length;
    }

    public int clearText() {
        int length = script.length;
        script.length = 0;
        return length;
    }

    public int fault() {
        return script.parse();
    }

    public int run() throws IllegalArgumentException {
        if (script.parse() != NONE) {
            throw new IllegalArgumentException("the text has a fault");
        }
        history.save(recording);
        int carriedOut = 0;
        for (int k = 0; k < script.commandCount; k++) {
            if (carryOut(script.commands[k], k * MOST_NUMBERS)) {
                carriedOut++;
            }
        }
        return carriedOut;
    }

    public int undo() throws IllegalStateException {
        if (history.count == 0) {
            throw new IllegalStateException("no state is saved");
        }
        history.restore(recording);
        return history.count;
    }

    public long checksum() {
        fillWorths(NONE);
        long sum = 31L * 18505L + recording.count;
        for (int packet = 0; packet < recording.count; packet++) {
            sum = 31L * sum + recording.times[packet];
            sum = 31L * sum + recording.flows[packet];
            sum = 31L * sum + recording.sizes[packet];
        }
        for (int setting = 0; setting < SETTINGS; setting++) {
            sum = 31L * sum + recording.settings[setting];
        }
        for (int set = 0; set < SETS; set++) {
            sum = 31L * sum + worths[set];
        }
        sum = 31L * sum + script.length;
        return 31L * sum + history.count;
    }

    // ---- what the calls share

    private static void requireFlow(int flow) {
        if (!isFlow(flow)) {
            throw new IndexOutOfBoundsException("not 0 to 5");
        }
    }

    private static void requireSet(int flows) {
        if (flows < 0 || flows > ALL_FLOWS) {
            throw new IllegalArgumentException("flows is not 0 to 63");
        }
    }

    private static void requirePart(int part) {
        if (part != 0 && part != 1) {
            throw new IllegalArgumentException("part is not 0 or 1");
        }
    }

    private void requirePacket(int packet) {
        if (packet < 0 || packet >= recording.count) {
            throw new IndexOutOfBoundsException("there is no such packet");
        }
    }

    private static boolean isFlow(int flow) {
        return flow >= 0 && flow < FLOWS;
    }

    private static boolean isPacket(int time, int flow, int size) {
        return time >= 0 && time <= LAST_TIME && isFlow(flow) && size >= 1 && size <= GREATEST_SIZE;
    }

    private static boolean isAllowed(int setting, int value) {
        return setting >= 0 && setting < SETTINGS && value >= LOWEST[setting] && value <= HIGHEST[setting];
    }

    private static boolean contains(int flows, int flow) {
        return (flows >> flow & 1) == 1;
    }

    private static int quotient(int dividend, int divisor) {
        return divisor > 0 ? dividend / divisor : 0;
    }

    private int change(int setting, int value) {
        if (!isAllowed(setting, value)) {
            throw new IllegalArgumentException("value is out of range");
        }
        history.save(recording);
        int previous = recording.settings[setting];
        recording.settings[setting] = value;
        return previous;
    }

    private int worthOf(int flows, int victim) {
        trial.play(flows, recording.settings[CAPACITY], recording.settings[POLICY]);
        return trial.measureFor(victim);
    }

    private void fillWorths(int victim) {
        int present = recording.flowSet();
        for (int set = 0; set < SETS; set++) {
            // A flow without packets changes no replay, and a smaller set has its worth already.
            int same = set & present;
            worths[set] = same < set ? worths[same] : worthOf(set, victim);
        }
    }

    private int contributionTo(int set, int flow) {
        return worths[set | 1 << flow] - worths[set];
    }

    private int sumOverOrders(int flow) {
        int sum = 0;
        for (int set = 0; set < SETS; set++) {
            if (!contains(set, flow)) {
                sum += ORDERS_BY_FLOWS_BEFORE[Integer.bitCount(set)] * contributionTo(set, flow);
            }
        }
        return sum;
    }

    private int sumOverSets(int flow) {
        int sum = 0;
        for (int set = 0; set < SETS; set++) {
            if (!contains(set, flow)) {
                sum += contributionTo(set, flow);
            }
        }
        return sum;
    }

    private int sumOfInteractions(int one, int other) {
        int sum = 0;
        for (int set = 0; set < SETS; set++) {
            if (!contains(set, one) && !contains(set, other)) {
                sum += contributionTo(set | 1 << other, one) - contributionTo(set, one);
            }
        }
        return sum;
    }

    private static int partOfFraction(int numerator, int denominator, int part) {
        int divisor = commonDivisor(Math.abs(numerator), denominator);
        return quotient(part == 0 ? numerator : denominator, divisor);
    }

    private static int commonDivisor(int a, int b) {
        int greater = a;
        int less = b;
        // Euclid's remainders halve in every second step, so an int needs fewer than 64.
        for (int step = 0; step < 64 && less > 0; step++) {
            int rest = greater % less;
            greater = less;
            less = rest;
        }
        return greater;
    }

    private int rankByBlames(int flow) {
        int rank = 0;
        for (int other = 0; other < FLOWS; other++) {
            boolean first = other < flow ? blames[other] >= blames[flow] : blames[other] > blames[flow];
            if (first) {
                rank++;
            }
        }
        return rank;
    }

    private long drawOrder(long start) {
        for (int flow = 0; flow < FLOWS; flow++) {
            order[flow] = flow;
        }
        long state = start;
        for (int k = FLOWS - 1; k >= 1; k--) {
            state = (1103515245L * state + 12345L) & 0x7fffffffL;
            int other = (int) (state >> 16) % (k + 1);
            int moved = order[k];
            order[k] = order[other];
            order[other] = moved;
        }
        return state;
    }

    private int flowsBefore(int flow) {
        int before = 0;
        for (int k = 0; k < FLOWS && order[k] != flow; k++) {
            before |= 1 << order[k];
        }
        return before;
    }

    private int smallestCause(int packet) {
        if (!isDroppedWith(ALL_FLOWS, packet)) {
            return 0;
        }
        for (int size = 1; size < FLOWS; size++) {
            for (int set = 1; set < SETS; set++) {
                if (Integer.bitCount(set) == size && isCause(set, packet)) {
                    return set;
                }
            }
        }
        return NONE;
    }

    private boolean isCause(int set, int packet) {
        return !contains(set, recording.flows[packet]) && !isDroppedWith(ALL_FLOWS & ~set, packet);
    }

    private boolean isDroppedWith(int flows, int packet) {
        trial.play(flows, recording.settings[CAPACITY], recording.settings[POLICY]);
        return trial.outcome.fateOf(packet) == DROPPED;
    }

    private boolean carryOut(Command command, int firstNumber) {
        if (firstNumber < 0 || firstNumber + 2 >= script.numbers.length || command == null) {
            return false;
        }
        int first = script.numbers[firstNumber];
        int second = script.numbers[firstNumber + 1];
        int third = script.numbers[firstNumber + 2];
        if (command == Command.PACKET) {
            return isPacket(first, second, third) && recording.insert(first, second, third) != NONE;
        }
        if (command == Command.PRIORITY) {
            return isFlow(first) && recording.set(FIRST_PRIORITY + first, second);
        }
        return recording.set(command.setting, first);
    }

    /** The recorded packets and the settings: all that undo restores. */
    private static final class Recording {
        int count;
        final int[] times = new int[MOST_PACKETS];
        final int[] flows = new int[MOST_PACKETS];
        final int[] sizes = new int[MOST_PACKETS];
        final int[] settings = INITIAL.clone();

        boolean isFull() {
            return count >= MOST_PACKETS;
        }

        int insert(int time, int flow, int size) {
            if (isFull()) {
                return NONE;
            }
            int place = count;
            while (place > 0 && times[place - 1] > time) {
                place--;
            }
            shift(place, place + 1);
            times[place] = time;
            flows[place] = flow;
            sizes[place] = size;
            count++;
            return place;
        }

        void delete(int place) {
            if (place >= 0 && place < count) {
                shift(place + 1, place);
                count--;
            }
        }

        private void shift(int from, int to) {
            System.arraycopy(times, from, times, to, count - from);
            System.arraycopy(flows, from, flows, to, count - from);
            System.arraycopy(sizes, from, sizes, to, count - from);
        }

        boolean set(int setting, int value) {
            boolean allowed = isAllowed(setting, value);
            if (allowed) {
                settings[setting] = value;
            }
            return allowed;
        }

        int flowSet() {
            int set = 0;
            for (int packet = 0; packet < count; packet++) {
                set |= 1 << flows[packet];
            }
            return set;
        }

        void copyFrom(Recording other) {
            count = other.count;
            System.arraycopy(other.times, 0, times, 0, MOST_PACKETS);
            System.arraycopy(other.flows, 0, flows, 0, MOST_PACKETS);
            System.arraycopy(other.sizes, 0, sizes, 0, MOST_PACKETS);
            System.arraycopy(other.settings, 0, settings, 0, SETTINGS);
        }
    }

    /** The saved states, in a ring whose oldest state gives way to the newest. */
    private static final class History {
        final Recording[] states = new Recording[MOST_SAVED];
        int count;
        int newest;

        History() {
            for (int k = 0; k < MOST_SAVED; k++) {
                states[k] = new Recording();
            }
        }

        void save(Recording recording) {
            newest = (newest + 1) % MOST_SAVED;
            states[newest].copyFrom(recording);
            count = Math.min(count + 1, MOST_SAVED);
        }

        void restore(Recording recording) {
            recording.copyFrom(states[newest]);
            newest = (newest + MOST_SAVED - 1) % MOST_SAVED;
            count--;
        }
    }

    /** What is told of a replay when it is over. */
    private static final class Outcome {
        boolean exists;
        int count;
        final int[] fates = new int[MOST_PACKETS];
        int dropCount;
        final int[] drops = new int[MOST_PACKETS];
        int rate;
        int markCount;
        final int[] markTicks = new int[MOST_PACKETS];
        final int[] markLoads = new int[MOST_PACKETS];

        void begin(int packets, int bytesATick) {
            exists = true;
            count = packets;
            rate = bytesATick;
            dropCount = 0;
            markCount = 0;
        }

        void noteDrop(int packet) {
            if (packet >= 0 && packet < count && dropCount < MOST_PACKETS) {
                fates[packet] = DROPPED;
                drops[dropCount] = packet;
                dropCount++;
            }
        }

        /** Notes the load at the end of a tick in which packets may have arrived. */
        void noteLoad(int tick, int load) {
            if (markCount < MOST_PACKETS) {
                markTicks[markCount] = tick;
                markLoads[markCount] = load;
                markCount++;
            }
        }

        int fateOf(int packet) {
            return exists && packet >= 0 && packet < count ? fates[packet] : NONE;
        }

        int dropNumbered(int k) {
            return exists && k >= 0 && k < dropCount ? drops[k] : NONE;
        }

        int loadAfter(int tick) {
            if (!exists || tick < 0) {
                return NONE;
            }
            long load = 0;
            for (int k = 0; k < markCount && markTicks[k] <= tick; k++) {
                // Without arrivals a tick sends the rate, or all that is left.
                load = Math.max(0L, markLoads[k] - (long) rate * (tick - markTicks[k]));
            }
            return (int) load;
        }

        int greatestLoad() {
            if (!exists) {
                return NONE;
            }
            int greatest = 0;
            for (int k = 0; k < markCount; k++) {
                greatest = Math.max(greatest, markLoads[k]);
            }
            return greatest;
        }
    }

    /** The packets in the queue, by their numbers, the first one first. */
    private static final class Line {
        int length;
        final int[] waiting = new int[MOST_PACKETS];
        final int[] remaining = new int[MOST_PACKETS];
        int load;
        int begun;

        void empty() {
            length = 0;
            load = 0;
            begun = NONE;
        }

        void join(int packet, int size) {
            if (length < MOST_PACKETS) {
                waiting[length] = packet;
                remaining[packet] = size;
                length++;
                load += size;
            }
        }

        int takeOut(int position) {
            if (position < 0 || position >= length) {
                return NONE;
            }
            int packet = waiting[position];
            load -= remaining[packet];
            length--;
            System.arraycopy(waiting, position + 1, waiting, position, length - position);
            return packet;
        }

        /** Sends bytes of a packet; tells whether it has left the queue by this. */
        boolean send(int position, int bytes) {
            int packet = waiting[position];
            remaining[packet] -= bytes;
            load -= bytes;
            boolean leaves = remaining[packet] == 0;
            begun = leaves ? NONE : packet;
            if (leaves) {
                takeOut(position);
            }
            return leaves;
        }

        int positionOfBegun() {
            for (int position = 0; position < length; position++) {
                if (waiting[position] == begun) {
                    return position;
                }
            }
            return NONE;
        }

        int firstNotBegun() {
            for (int position = 0; position < length; position++) {
                if (waiting[position] != begun) {
                    return position;
                }
            }
            return NONE;
        }
    }

    /** Replays the recorded packets of some flows through the queue. */
    private static final class Replayer {
        final Recording recording;
        final Outcome outcome = new Outcome();
        final Line line = new Line();
        final int[] amounts = new int[FLOWS];
        int capacity;
        int nextCapacity;
        int rate;
        int earlyCount;
        int lastFlow;

        Replayer(Recording recording) {
            this.recording = recording;
        }

        void play(int flows, int queueCapacity, int policy) {
            capacity = queueCapacity;
            nextCapacity = GREATEST_CAPACITY + 1;
            rate = recording.settings[RATE];
            earlyCount = 0;
            lastFlow = FLOWS - 1;
            line.empty();
            outcome.begin(recording.count, rate);
            for (int packet = 0; packet < recording.count; packet++) {
                if (!contains(flows, recording.flows[packet])) {
                    outcome.fates[packet] = LEFT_OUT;
                } else if (admits(packet, policy)) {
                    line.join(packet, recording.sizes[packet]);
                } else {
                    outcome.noteDrop(packet);
                }
                if (isLastOfItsTick(packet)) {
                    serveBehind(packet);
                }
            }
        }

        int measureFor(int victim) {
            int sum = 0;
            for (int packet = 0; packet < recording.count; packet++) {
                if (victim == NONE || victim == recording.flows[packet]) {
                    sum += measureOf(packet);
                }
            }
            return sum;
        }

        private int measureOf(int packet) {
            int fate = outcome.fateOf(packet);
            switch (recording.settings[MEASURE]) {
                case DROPPED_PACKETS:
                    return fate == DROPPED ? 1 : 0;
                case DROPPED_BYTES:
                    return fate == DROPPED ? recording.sizes[packet] : 0;
                default:
                    return fate >= 0 ? fate - recording.times[packet] : 0;
            }
        }

        /**
         * Every question about the capacity is asked here: below nextCapacity all answers,
         * and so the whole replay, stay the same.
         */
        private boolean holds(int bytes) {
            if (bytes <= capacity) {
                return true;
            }
            nextCapacity = Math.min(nextCapacity, bytes);
            return false;
        }

        private boolean admits(int packet, int policy) {
            int flow = recording.flows[packet];
            int size = recording.sizes[packet];
            if (!holds(size)) {
                return false;
            }
            switch (policy) {
                case HEAD_DROP:
                    return makesRoomAtHead(size);
                case LONGEST_FLOW:
                    return makesRoomInLongestFlow(flow, size);
                case DYNAMIC_THRESHOLD:
                    return holds(line.load + size) && holds(line.load + bytesForThreshold(flow, size));
                case EARLY_DROP:
                    return holds(line.load + size) && !isDroppedEarly();
                default:
                    return holds(line.load + size);
            }
        }

        private boolean makesRoomAtHead(int size) {
            for (int round = 0; round <= MOST_PACKETS && !holds(line.load + size); round++) {
                int position = line.firstNotBegun();
                if (position == NONE) {
                    return false;
                }
                outcome.noteDrop(line.takeOut(position));
            }
            return true;
        }

        private boolean makesRoomInLongestFlow(int flow, int size) {
            for (int round = 0; round <= MOST_PACKETS && !holds(line.load + size); round++) {
                int victim = longestFlow(flow, size);
                if (victim == flow) {
                    return false;
                }
                outcome.noteDrop(line.takeOut(lastNotBegunOf(victim)));
            }
            return true;
        }

        private int longestFlow(int arriving, int size) {
            for (int flow = 0; flow < FLOWS; flow++) {
                amounts[flow] = flow == arriving ? size : 0;
            }
            for (int position = 0; position < line.length; position++) {
                int packet = line.waiting[position];
                if (packet != line.begun) {
                    amounts[recording.flows[packet]] += recording.sizes[packet];
                }
            }
            int longest = 0;
            for (int flow = 1; flow < FLOWS; flow++) {
                if (amounts[flow] > amounts[longest]) {
                    longest = flow;
                }
            }
            return longest;
        }

        private int lastNotBegunOf(int flow) {
            for (int position = line.length - 1; position >= 0; position--) {
                int packet = line.waiting[position];
                if (packet != line.begun && recording.flows[packet] == flow) {
                    return position;
                }
            }
            return NONE;
        }

        /** The least b with factor * b at least 4 * (the bytes of the flow plus size). */
        private int bytesForThreshold(int flow, int size) {
            int bytes = size;
            for (int position = 0; position < line.length; position++) {
                int packet = line.waiting[position];
                if (recording.flows[packet] == flow) {
                    bytes += line.remaining[packet];
                }
            }
            int factor = recording.settings[FACTOR];
            return quotient(4 * bytes + factor - 1, factor);
        }

        private boolean isDroppedEarly() {
            if (line.load < recording.settings[THRESHOLD]) {
                return false;
            }
            earlyCount++;
            if (earlyCount < recording.settings[INTERVAL]) {
                return false;
            }
            // Only divisibility matters, so the count may begin anew.
            earlyCount = 0;
            return true;
        }

        private boolean isLastOfItsTick(int packet) {
            return packet + 1 >= recording.count || recording.times[packet + 1] > recording.times[packet];
        }

        private int bytesUntilNext(int packet) {
            if (packet + 1 >= recording.count) {
                return line.load;
            }
            return Math.min(line.load, rate * (recording.times[packet + 1] - recording.times[packet]));
        }

        /**
         * Serves the queue from the tick of a packet until the next packet arrives. As long as the queue
         * is not empty, no byte of the rate is lost, so the ticks need no steps of their own.
         */
        private void serveBehind(int packet) {
            int tick = recording.times[packet];
            int bytes = bytesUntilNext(packet);
            outcome.noteLoad(tick, Math.max(0, line.load - rate));
            int sent = 0;
            for (int turn = 0; turn < MOST_PACKETS && sent < bytes; turn++) {
                int position = chosenPosition();
                if (position == NONE) {
                    return;
                }
                int chosen = line.waiting[position];
                int part = Math.min(line.remaining[chosen], bytes - sent);
                sent += part;
                if (line.send(position, part)) {
                    outcome.fates[chosen] = tick + quotient(sent - 1, rate);
                }
            }
        }

        private int chosenPosition() {
            if (line.begun != NONE) {
                return line.positionOfBegun();
            }
            if (line.length == 0) {
                return NONE;
            }
            if (recording.settings[SCHEDULER] == FIRST_IN_FIRST_OUT) {
                return 0;
            }
            int chosen = 0;
            int leastTurn = turnOf(recording.flows[line.waiting[0]]);
            for (int position = 1; position < line.length; position++) {
                int turn = turnOf(recording.flows[line.waiting[position]]);
                if (turn < leastTurn) {
                    chosen = position;
                    leastTurn = turn;
                }
            }
            lastFlow = recording.flows[line.waiting[chosen]];
            return chosen;
        }

        /** The scheduler takes the flow with the lowest turn; no two flows have the same. */
        private int turnOf(int flow) {
            if (recording.settings[SCHEDULER] == BY_PRIORITIES) {
                return recording.settings[FIRST_PRIORITY + flow] * FLOWS + flow;
            }
            return flow > lastFlow ? flow - lastFlow : flow - lastFlow + FLOWS;
        }
    }

    /** The commands that a script may hold. */
    private enum Command {
        PACKET("packet", 3, NONE),
        CAPACITY_COMMAND("capacity", 1, CAPACITY),
        RATE_COMMAND("rate", 1, RATE),
        POLICY_COMMAND("policy", 1, POLICY),
        SCHEDULER_COMMAND("scheduler", 1, SCHEDULER),
        PRIORITY("priority", 2, NONE),
        MEASURE_COMMAND("measure", 1, MEASURE);

        final String word;
        final int numbers;
        final int setting;

        Command(String word, int numbers, int setting) {
            this.word = word;
            this.numbers = numbers;
            this.setting = setting;
        }
    }

    /** The text and the commands that were found in it. */
    private static final class Script {
        static final int SPACE = 0;
        static final int WORD = 1;
        static final int NUMBER = 2;
        static final int SEMICOLON = 3;
        static final int OTHER = 4;

        final int[] codes = new int[MOST_CHARACTERS];
        int length;
        // A command has at least one character, so there are never more commands than characters.
        final Command[] commands = new Command[MOST_CHARACTERS];
        final int[] numbers = new int[MOST_NUMBERS * MOST_CHARACTERS];
        int commandCount;

        boolean isFull() {
            return length >= MOST_CHARACTERS;
        }

        void append(int code) {
            if (!isFull()) {
                codes[length] = code;
                length++;
            }
        }

        /** Finds the commands of the text; returns the fault of the text, or NONE. */
        int parse() {
            commandCount = 0;
            Command open = null;
            int given = 0;
            int end = 0;
            for (int at = 0; at < length; at = Math.max(at + 1, end)) {
                int kind = kindOf(codes[at]);
                end = endOf(at, kind);
                if (kind == SPACE) {
                    continue;
                }
                if (open == null) {
                    open = kind == WORD ? commandAt(at, end) : null;
                    given = 0;
                    if (open == null) {
                        return at;
                    }
                } else if (given < open.numbers) {
                    if (kind != NUMBER || end - at > MOST_DIGITS) {
                        return at;
                    }
                    numbers[MOST_NUMBERS * commandCount + given] = numberAt(at, end);
                    given++;
                } else {
                    if (kind != SEMICOLON) {
                        return at;
                    }
                    commands[commandCount] = open;
                    commandCount++;
                    open = null;
                }
            }
            return open == null ? NONE : length;
        }

        private static int kindOf(int code) {
            if (code >= 'a' && code <= 'z') {
                return WORD;
            }
            if (code >= '0' && code <= '9') {
                return NUMBER;
            }
            if (code == ';') {
                return SEMICOLON;
            }
            return code == ' ' ? SPACE : OTHER;
        }

        private int endOf(int at, int kind) {
            int end = at + 1;
            while ((kind == WORD || kind == NUMBER) && end < length && kindOf(codes[end]) == kind) {
                end++;
            }
            return end;
        }

        private Command commandAt(int at, int end) {
            for (int k = 0; k < COMMANDS.length; k++) {
                if (isWordAt(COMMANDS[k].word, at, end)) {
                    return COMMANDS[k];
                }
            }
            return null;
        }

        private boolean isWordAt(String word, int at, int end) {
            if (word.length() != end - at) {
                return false;
            }
            for (int k = 0; k < word.length(); k++) {
                if (word.charAt(k) != codes[at + k]) {
                    return false;
                }
            }
            return true;
        }

        private int numberAt(int at, int end) {
            int number = 0;
            for (int k = at; k < end; k++) {
                number = 10 * number + codes[k] - '0';
            }
            return number;
        }
    }
}
