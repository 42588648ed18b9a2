/** What the tests share: comparing an answer with the one that is due, and the count of wrong ones. */
public final class Check {
    public interface Call {
        long answer();
    }

    private static int wrong = 0;

    private Check() {
    }

    public static void due(String what, long got, long want) {
        if (got != want) {
            wrong++;
            System.out.println(what + " answered " + got + ", due is " + want);
        }
    }

    public static void throwsIndex(String what, Call call) {
        thrown(what, call, IndexOutOfBoundsException.class);
    }

    public static void throwsArgument(String what, Call call) {
        thrown(what, call, IllegalArgumentException.class);
    }

    public static void throwsState(String what, Call call) {
        thrown(what, call, IllegalStateException.class);
    }

    private static void thrown(String what, Call call, Class<?> want) {
        String got;
        try {
            got = String.valueOf(call.answer());
        } catch (RuntimeException e) {
            // A class below the one that is due would be thrown by the machine.
            if (e.getClass() == want) return;
            got = e.getClass().getName();
        }
        wrong++;
        System.out.println(what + " answered " + got + ", due is " + want.getName());
    }

    public static void write(QueueBlame x, String text) {
        for (char c : text.toCharArray()) x.type(c);
    }

    public static void end() {
        if (wrong > 0) {
            System.out.println(wrong + " answers are not as due");
            System.exit(1);
        }
    }
}
