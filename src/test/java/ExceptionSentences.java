/** The sentences under "EXCEPTIONS". */
public final class ExceptionSentences {
    private enum Due { INDEX, ARGUMENT, STATE }

    private interface Call {
        long of(QueueBlame x);
    }

    private final Sentences doc;

    private ExceptionSentences(Sentences doc) {
        this.doc = doc;
    }

    public static void test(Sentences doc) {
        ExceptionSentences sentences = new ExceptionSentences(doc);
        doc.section("EXCEPTIONS");
        sentences.nothingChanges();
        sentences.theFirstListed();
        sentences.none();
    }

    /** An analyser in which nothing is as at first. */
    private static QueueBlame used() {
        QueueBlame x = Check.with(1, 0, 60, 1, 1, 60, 2, 5, 30);
        x.setCapacity(95);
        x.setRate(9);
        x.setPolicy(1);
        x.setScheduler(1);
        x.setPriority(5, 0);
        x.replay(35);
        x.erase(0);
        x.setMeasure(2);
        x.setRate(8);
        x.undo();
        Check.write(x, "rate 7;packet 3 3 3;x");
        return x;
    }

    /** The same without room: 40 packets and 120 characters. */
    private static QueueBlame full() {
        QueueBlame x = used();
        while (x.packets() < 40) x.record(4, 4, 4);
        for (int k = 21; k < 120; k++) x.type('y');
        return x;
    }

    private static void refused(Due due, String what, QueueBlame x, Call call) {
        switch (due) {
            case INDEX -> Check.throwsIndex(what, () -> call.of(x));
            case ARGUMENT -> Check.throwsArgument(what, () -> call.of(x));
            default -> Check.throwsState(what, () -> call.of(x));
        }
    }

    private static void changesNothing(Due due, String what, Call call) {
        QueueBlame x = used();
        refused(due, what, x, call);
        Check.due("all that is seen after " + what, Sight.of(x), Sight.of(used()));
    }

    private static void fullChangesNothing(Due due, String what, Call call) {
        QueueBlame x = full();
        refused(due, what, x, call);
        Check.due("all that is seen of a full one after " + what, Sight.of(x), Sight.of(full()));
    }

    private void nothingChanges() {
        doc.says("A call that throws an exception changes nothing.", () -> {
            changesNothing(Due.INDEX, "record, flow", x -> x.record(0, 6, 1));
            changesNothing(Due.ARGUMENT, "record, time", x -> x.record(501, 0, 1));
            changesNothing(Due.ARGUMENT, "record, size", x -> x.record(0, 0, 0));
            fullChangesNothing(Due.STATE, "record", x -> x.record(0, 0, 1));
            changesNothing(Due.INDEX, "erase", x -> x.erase(2));
            changesNothing(Due.INDEX, "packet", x -> x.packet(2, 0));
            changesNothing(Due.ARGUMENT, "packet, what", x -> x.packet(0, 3));
            changesNothing(Due.ARGUMENT, "setCapacity", x -> x.setCapacity(0));
            changesNothing(Due.ARGUMENT, "setRate", x -> x.setRate(101));
            changesNothing(Due.ARGUMENT, "setPolicy", x -> x.setPolicy(5));
            changesNothing(Due.ARGUMENT, "setScheduler", x -> x.setScheduler(3));
            changesNothing(Due.ARGUMENT, "setFactor", x -> x.setFactor(0));
            changesNothing(Due.ARGUMENT, "setThreshold", x -> x.setThreshold(-1));
            changesNothing(Due.ARGUMENT, "setInterval", x -> x.setInterval(1));
            changesNothing(Due.ARGUMENT, "setMeasure", x -> x.setMeasure(3));
            changesNothing(Due.INDEX, "setPriority, flow", x -> x.setPriority(6, 0));
            changesNothing(Due.ARGUMENT, "setPriority, value", x -> x.setPriority(0, 10));
            changesNothing(Due.ARGUMENT, "replay", x -> x.replay(64));
            changesNothing(Due.ARGUMENT, "worth", x -> x.worth(64));
            changesNothing(Due.INDEX, "worthFor, victim", x -> x.worthFor(0, 6));
            changesNothing(Due.ARGUMENT, "worthFor, flows", x -> x.worthFor(64, 0));
            changesNothing(Due.INDEX, "contribution, flow", x -> x.contribution(6, 0));
            changesNothing(Due.ARGUMENT, "contribution, flows", x -> x.contribution(0, 1));
            changesNothing(Due.INDEX, "blame, flow", x -> x.blame(6, 0));
            changesNothing(Due.ARGUMENT, "blame, part", x -> x.blame(0, 2));
            changesNothing(Due.INDEX, "blameFor, victim", x -> x.blameFor(0, 6, 0));
            changesNothing(Due.ARGUMENT, "blameFor, part", x -> x.blameFor(0, 0, 2));
            changesNothing(Due.INDEX, "index, flow", x -> x.index(6, 0));
            changesNothing(Due.ARGUMENT, "index, part", x -> x.index(0, 2));
            changesNothing(Due.INDEX, "interaction, flow", x -> x.interaction(0, 6, 0));
            changesNothing(Due.ARGUMENT, "interaction, the same", x -> x.interaction(1, 1, 0));
            changesNothing(Due.INDEX, "ranked", x -> x.ranked(6));
            changesNothing(Due.INDEX, "sampled, flow", x -> x.sampled(6, 1, 0));
            changesNothing(Due.ARGUMENT, "sampled, orders", x -> x.sampled(0, 101, 0));
            changesNothing(Due.INDEX, "cause", x -> x.cause(2));
            changesNothing(Due.INDEX, "suspects", x -> x.suspects(2));
            changesNothing(Due.ARGUMENT, "capacityFor", x -> x.capacityFor(-1));
            changesNothing(Due.ARGUMENT, "type", x -> x.type(127));
            fullChangesNothing(Due.STATE, "type", x -> x.type(32));
            changesNothing(Due.ARGUMENT, "run", x -> x.run());
            QueueBlame x = new QueueBlame();
            Check.throwsState("undo", x::undo);
            Check.due("all that is seen after undo", Sight.of(x), Sight.of(new QueueBlame()));
        });
    }

    private void theFirstListed() {
        doc.says("If several exceptions of a method apply, the one that is listed first is thrown.", () -> {
            QueueBlame x = full();
            Check.throwsIndex("record, all three", () -> x.record(-1, 6, 0));
            Check.throwsIndex("record, flow and time", () -> used().record(501, -1, 1));
            Check.throwsIndex("record, flow and size", () -> used().record(0, 6, 101));
            Check.throwsIndex("record, flow and room", () -> x.record(0, 6, 1));
            Check.throwsArgument("record, time and room", () -> x.record(501, 0, 1));
            Check.throwsArgument("record, size and room", () -> x.record(0, 0, 101));
            Check.throwsIndex("packet", () -> x.packet(40, 3));
            Check.throwsIndex("packet", () -> x.packet(-1, -1));
            Check.throwsIndex("setPriority", () -> x.setPriority(6, 10));
            Check.throwsIndex("worthFor", () -> x.worthFor(64, 6));
            Check.throwsIndex("contribution", () -> x.contribution(6, 64));
            Check.throwsIndex("contribution", () -> x.contribution(-1, 63));
            Check.throwsIndex("blame", () -> x.blame(6, 2));
            Check.throwsIndex("blameFor, flow", () -> x.blameFor(6, 0, 2));
            Check.throwsIndex("blameFor, victim", () -> x.blameFor(0, 6, 2));
            Check.throwsIndex("index", () -> x.index(-1, -1));
            Check.throwsIndex("interaction, one", () -> x.interaction(6, 0, 2));
            Check.throwsIndex("interaction, other", () -> x.interaction(0, -1, 2));
            Check.throwsIndex("interaction, the same", () -> x.interaction(6, 6, 0));
            Check.throwsIndex("sampled, orders", () -> x.sampled(6, 0, 0));
            Check.throwsIndex("sampled, start", () -> x.sampled(-1, 1, -1));
            Check.throwsArgument("type", () -> x.type(31));
        });
    }

    private void none() {
        doc.says("NONE is returned only if no exception applies.", () -> {
            QueueBlame x = Check.with(0, 0, 60, 0, 0, 60);
            Check.due("cause", x.cause(1), -1);
            Check.throwsIndex("cause of no packet", () -> x.cause(2));
            Check.throwsIndex("cause without packets", () -> new QueueBlame().cause(0));
            QueueBlame early = Check.with(0, 0, 1, 0, 0, 1);
            early.setPolicy(4);
            early.setThreshold(0);
            early.setInterval(2);
            Check.due("capacityFor", early.capacityFor(0), -1);
            Check.throwsArgument("capacityFor(-1)", () -> early.capacityFor(-1));
        });
        doc.says("The constants: `NONE = -1`: Returned where there is no such thing.", () -> {
            Check.due("NONE", QueueBlame.NONE, -1);
            QueueBlame x = Check.with(0, 0, 60, 0, 0, 60);
            Check.due("fate", x.fate(0), QueueBlame.NONE);
            Check.due("loadAt", x.loadAt(0), QueueBlame.NONE);
            Check.due("peak", x.peak(), QueueBlame.NONE);
            Check.due("dropped", x.dropped(0), QueueBlame.NONE);
            Check.due("cause", x.cause(1), QueueBlame.NONE);
            Check.due("fault", x.fault(), QueueBlame.NONE);
        });
    }
}
