/** What the tests share: comparing an answer with the one that is due, and the count of wrong ones. */
public final class Check {
    public interface Call {
        long answer();
    }

    private static int wrong = 0;
    private static int made = 0;
    private static String heading = "";

    private Check() {
    }

    /** What is being tested now; a wrong answer is told with it. */
    public static void head(String text) {
        heading = text.isEmpty() ? "" : text + ": ";
    }

    /** How many answers were compared so far. */
    public static int made() {
        return made;
    }

    public static void due(String what, long got, long want) {
        made++;
        if (got != want) fail(what, String.valueOf(got), String.valueOf(want));
    }

    public static void due(String what, String got, String want) {
        made++;
        if (!got.equals(want)) fail(what, got, want);
    }

    public static void throwsIndex(String what, Call call) {
        thrown(what, call, IndexOutOfBoundsException.class);
    }

    public static void throwsArgument(String what, Call call) {
        thrown(what, call, IllegalArgumentException.class);
    }

    public static void throwsState(String what, Call call) {
        thrown(what, call, IllegalStateException.class);
    }

    private static void thrown(String what, Call call, Class<?> want) {
        made++;
        String got;
        try {
            got = String.valueOf(call.answer());
        } catch (RuntimeException e) {
            // A class below the one that is due would be thrown by the machine.
            if (e.getClass() == want) return;
            got = e.getClass().getName();
        }
        fail(what, got, want.getName());
    }

    public static void fail(String what, String got, String want) {
        wrong++;
        System.out.println(heading + what + " answered " + got + ", due is " + want);
    }

    /** An analyser with packets that are given as time, flow, size, time, flow, size .. */
    public static QueueBlame with(int... packets) {
        QueueBlame x = new QueueBlame();
        for (int k = 0; k + 2 < packets.length; k += 3) x.record(packets[k], packets[k + 1], packets[k + 2]);
        return x;
    }

    public static void write(QueueBlame x, String text) {
        for (char c : text.toCharArray()) x.type(c);
    }

    public static void end() {
        if (wrong > 0) {
            System.out.println(wrong + " answers are not as due");
            System.exit(1);
        }
    }
}
