/**
 * Every small case, none left out, against Model: all recordings of three small packets under all policies and
 * schedulers, and all texts of up to five pieces. Random runs may pass a small case by; this does not.
 */
public final class SmallCasesTest {
    private static final int PACKETS = 3;
    private static final int TIMES = 2;
    private static final int FLOWS = 2;
    private static final int SIZES = 2;
    private static final int CAPACITIES = 5;
    private static final int RATES = 3;
    private static final int POLICIES = 5;
    private static final int SCHEDULERS = 3;
    private static final int TURNS = 4;
    private static final int TICKS = 4;

    private static final String[] PIECES = {"rate", "priority", "x", "1", "1234", "12345", ";", " ", "A"};
    private static final int MOST_PIECES = 5;

    private static void alike(String what, long got, long want) {
        // The words of a case are dear, so they are only joined for a wrong answer.
        if (got != want) Check.due(what, got, want);
    }

    /** The settings that only some policies, schedulers and calls look at. */
    private static void setTheRest(QueueBlame x, Model m, int turn) {
        x.setFactor(turn == 0 ? 1 : 4 * turn);
        m.setFactor(turn == 0 ? 1 : 4 * turn);
        x.setThreshold(turn / 2);
        m.setThreshold(turn / 2);
        x.setInterval(2 + turn % 2);
        m.setInterval(2 + turn % 2);
        x.setPriority(0, 4 + turn);
        m.setPriority(0, 4 + turn);
        x.setMeasure(turn % 3);
        m.setMeasure(turn % 3);
    }

    private static void recordAll(QueueBlame x, Model m, int recording) {
        int rest = recording;
        for (int k = 0; k < PACKETS; k++) {
            int time = rest % TIMES;
            int flow = rest / TIMES % FLOWS;
            int size = 1 + rest / (TIMES * FLOWS) % SIZES;
            rest /= TIMES * FLOWS * SIZES;
            alike("record", x.record(time, flow, size), m.record(time, flow, size));
        }
    }

    private static void compare(QueueBlame x, Model m) {
        alike("replay", x.replay(63), m.replay(63));
        alike("peak", x.peak(), m.peak());
        for (int tick = 0; tick < TICKS; tick++) alike("loadAt", x.loadAt(tick), m.loadAt(tick));
        for (int k = 0; k <= PACKETS; k++) {
            alike("fate", x.fate(k), m.fate(k));
            alike("dropped", x.dropped(k), m.dropped(k));
        }
        for (int packet = 0; packet < PACKETS; packet++) {
            alike("cause", x.cause(packet), m.cause(packet));
            alike("suspects", x.suspects(packet), m.suspects(packet));
        }
        for (int flows = 0; flows < 4; flows++) alike("worth", x.worth(flows), m.worth(flows));
    }

    private static int queues() {
        int recordings = 1;
        for (int k = 0; k < PACKETS; k++) recordings *= TIMES * FLOWS * SIZES;
        int settings = CAPACITIES * RATES * POLICIES * SCHEDULERS * TURNS;
        for (int recording = 0; recording < recordings; recording++) {
            for (int setting = 0; setting < settings; setting++) {
                int capacity = 1 + setting % CAPACITIES;
                int rate = 1 + setting / CAPACITIES % RATES;
                int policy = setting / (CAPACITIES * RATES) % POLICIES;
                int scheduler = setting / (CAPACITIES * RATES * POLICIES) % SCHEDULERS;
                int turn = setting / (CAPACITIES * RATES * POLICIES * SCHEDULERS);
                QueueBlame x = new QueueBlame();
                Model m = new Model();
                Check.head("recording " + recording + ", capacity " + capacity + ", rate " + rate + ", policy "
                    + policy + ", scheduler " + scheduler + ", turn " + turn);
                recordAll(x, m, recording);
                setTheRest(x, m, turn);
                alike("setCapacity", x.setCapacity(capacity), m.setCapacity(capacity));
                alike("setRate", x.setRate(rate), m.setRate(rate));
                alike("setPolicy", x.setPolicy(policy), m.setPolicy(policy));
                alike("setScheduler", x.setScheduler(scheduler), m.setScheduler(scheduler));
                compare(x, m);
            }
        }
        return recordings * settings;
    }

    private static int texts() {
        int count = 1;
        int all = 0;
        for (int pieces = 0; pieces <= MOST_PIECES; pieces++) {
            for (int text = 0; text < count; text++) {
                StringBuilder written = new StringBuilder();
                for (int k = 0, rest = text; k < pieces; k++, rest /= PIECES.length) {
                    written.append(PIECES[rest % PIECES.length]);
                }
                QueueBlame x = new QueueBlame();
                Model m = new Model();
                for (char c : written.toString().toCharArray()) alike("type", x.type(c), m.type(c));
                Check.head("\"" + written + "\"");
                int fault = m.fault();
                alike("fault", x.fault(), fault);
                if (fault == QueueBlame.NONE && x.fault() == fault) alike("run", x.run(), m.run());
            }
            all += count;
            count *= PIECES.length;
        }
        return all;
    }

    public static void main(String[] args) {
        int queues = queues();
        int texts = texts();
        Check.head("");
        Check.due("cases of the queue", queues, 512 * 900);
        Check.due("texts", texts, 1 + 9 + 81 + 729 + 6561 + 59049);
        Check.end();
    }
}
