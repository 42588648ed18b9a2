/** Promises 6 to 14: the settings, their ranges, what they return, and that they are undoable. */
public final class SettingsTest {
    private interface Setting {
        int set(int value);
    }

    private static void setting(String name, QueueBlame x, Setting setting, int initial, int lowest, int highest) {
        Check.throwsArgument(name + " too low", () -> setting.set(lowest - 1));
        Check.throwsArgument(name + " too high", () -> setting.set(highest + 1));
        Check.throwsArgument(name + " far too low", () -> setting.set(Integer.MIN_VALUE));
        Check.throwsArgument(name + " far too high", () -> setting.set(Integer.MAX_VALUE));
        Check.throwsState(name + ": nothing was saved", x::undo);
        Check.due(name + " lowest", setting.set(lowest), initial);
        Check.due(name + " highest", setting.set(highest), lowest);
        Check.due(name + " the same again", setting.set(highest), highest);
        Check.due(name + " undo", x.undo(), 2);
        Check.due(name + " undo", x.undo(), 1);
        Check.due(name + " is the lowest again", setting.set(initial), lowest);
        Check.due(name + " undo", x.undo(), 1);
        Check.due(name + " undo", x.undo(), 0);
        Check.due(name + " is as at first", setting.set(lowest), initial);
        Check.due(name + " undo", x.undo(), 0);
    }

    private static void priorities(QueueBlame x) {
        for (int flow = 0; flow < 6; flow++) {
            int f = flow;
            setting("priority of " + f, x, value -> x.setPriority(f, value), 5, 0, 9);
        }
        Check.throwsIndex("priority of -1", () -> x.setPriority(-1, 5));
        Check.throwsIndex("priority of 6", () -> x.setPriority(6, 5));
        Check.throwsIndex("priority 10 of 6", () -> x.setPriority(6, 10));
        for (int flow = 0; flow < 6; flow++) x.setPriority(flow, flow);
        for (int flow = 0; flow < 6; flow++) Check.due("own priority", x.setPriority(flow, 9), flow);
    }

    public static void main(String[] args) {
        QueueBlame x = new QueueBlame();
        setting("capacity", x, x::setCapacity, 100, 1, 1000);
        setting("rate", x, x::setRate, 10, 1, 100);
        setting("policy", x, x::setPolicy, 0, 0, 4);
        setting("scheduler", x, x::setScheduler, 0, 0, 2);
        setting("factor", x, x::setFactor, 4, 1, 16);
        setting("threshold", x, x::setThreshold, 50, 0, 1000);
        setting("interval", x, x::setInterval, 3, 2, 9);
        setting("measure", x, x::setMeasure, 0, 0, 2);
        priorities(x);
        Check.end();
    }
}
