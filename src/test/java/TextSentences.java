/** The sentences under "TEXTS" and "UNDO" and of the promises 33 to 38 that name a boundary case. */
public final class TextSentences {
    private interface Change {
        int make(QueueBlame x);
    }

    private final Sentences doc;

    private TextSentences(Sentences doc) {
        this.doc = doc;
    }

    public static void test(Sentences doc) {
        TextSentences sentences = new TextSentences(doc);
        doc.section("TEXTS");
        sentences.texts();
        sentences.commands();
        sentences.faults();
        doc.section("UNDO");
        sentences.saving();
        sentences.typing();
        sentences.clearText();
        sentences.fault();
        sentences.run();
        sentences.undo();
        sentences.checksum();
    }

    private static QueueBlame text(String text) {
        QueueBlame x = new QueueBlame();
        Check.write(x, text);
        return x;
    }

    private static void fault(String text, int due) {
        Check.due("fault of \"" + text + "\"", text(text).fault(), due);
    }

    private static void script(String text) {
        fault(text, QueueBlame.NONE);
    }

    private static void ran(String text, int due) {
        Check.due("run of \"" + text + "\"", text(text).run(), due);
    }

    private static QueueBlame after(String text) {
        QueueBlame x = text(text);
        x.run();
        return x;
    }

    private void texts() {
        doc.says("The text buffer holds at most 120 characters with codes from 32 to 126.", () -> {
            QueueBlame x = new QueueBlame();
            for (int k = 1; k <= 95; k++) Check.due("code " + (31 + k), x.type(31 + k), k);
            for (int k = 96; k <= 120; k++) Check.due("character " + k, x.type(32), k);
            Check.throwsState("character 121", () -> x.type(32));
            Check.throwsArgument("code 31", () -> x.type(31));
            Check.throwsArgument("code 127", () -> x.type(127));
            Check.due("length", x.clearText(), 120);
        });
        doc.says("A script consists of commands, perhaps none, each of which ends with \";\".", () -> {
            script("");
            script(" ");
            script("rate 1;");
            script("rate 1;rate 2;");
            fault("rate 1", 6);
            fault("rate 1;rate 2", 13);
            fault(";", 0);
            fault("rate 1;;", 7);
            StringBuilder most = new StringBuilder();
            for (int k = 0; k < 20; k++) most.append("rate1;");
            script(most.toString());
            ran(most.toString(), 20);
        });
        doc.says("A word is a sequence of letters a to z, a number a sequence of 1 to 4 digits; both are as long as "
            + "possible.", () -> {
            script("rate 1;");
            script("rate 1234;");
            script("rate 0009;");
            fault("rate 12345;", 5);
            fault("rate 00009;", 5);
            fault("rate ;", 5);
            fault("ratez 1;", 0);
            fault("arate 1;", 0);
            fault("raterate 1;", 0);
            fault("rat e 1;", 0);
            fault("Rate 1;", 0);
            fault("rat@ 1;", 0);
            fault("rate` 1;", 4);
            fault("rate{ 1;", 4);
            fault("rate /;", 5);
            fault("rate :;", 5);
            Check.due("all digits are read", after("capacity 1000;").setCapacity(1), 1000);
            Check.due("digits 0 to 9", after("capacity 789;").setCapacity(1), 789);
            Check.due("digits 0 to 9", after("capacity 456;").setCapacity(1), 456);
            Check.due("digits 0 to 9", after("capacity 0123;").setCapacity(1), 123);
        });
        doc.says("Spaces may stand before, between and after words, numbers and semicolons; they are only needed between "
            + "two numbers.", () -> {
            script("   rate   1   ;   rate   2   ;   ");
            script("rate1;rate2;");
            script("packet1 2 3;packet4 5 6;");
            ran("  packet  1  2  3  ;  ", 1);
            ran("packet1 2 3;rate2;", 2);
            Check.due("no space, one number", after("packet12 3 4;").packet(0, 0), 12);
            fault("packet123;", 9);
            fault("packet12 3;", 10);
            Check.due("a space, two numbers", after("priority3 4;").setPriority(3, 0), 4);
            fault("priority34;", 10);
            fault("ra te 1;", 0);
            fault("rate 1 2;", 7);
        });
    }

    private void commands() {
        doc.says("packet t f s        record(t, f, s)", () -> {
            QueueBlame x = after("packet 500 4 100;packet 0 5 1;");
            int[] due = {0, 5, 1, 500, 4, 100};
            for (int k = 0; k < 6; k++) Check.due("property", x.packet(k / 3, k % 3), due[k]);
            fault("packet;", 6);
            fault("packet 1;", 8);
            fault("packet 1 2;", 10);
            fault("packet 1 2 3 4;", 13);
        });
        doc.says("capacity n          setCapacity(n)", () -> {
            Check.due("capacity", after("capacity 1;").setCapacity(5), 1);
            Check.due("capacity", after("capacity 1000;").setCapacity(5), 1000);
            fault("capacity;", 8);
            fault("capacity 1 1;", 11);
        });
        doc.says("rate n              setRate(n)", () -> {
            Check.due("rate", after("rate 1;").setRate(5), 1);
            Check.due("rate", after("rate 100;").setRate(5), 100);
            fault("rate;", 4);
            fault("rate 1 1;", 7);
        });
        doc.says("policy n            setPolicy(n)", () -> {
            for (int n = 0; n < 5; n++) Check.due("policy", after("policy " + n + ";").setPolicy(0), n);
            fault("policy;", 6);
            fault("policy 1 1;", 9);
        });
        doc.says("scheduler n         setScheduler(n)", () -> {
            for (int n = 0; n < 3; n++) Check.due("scheduler", after("scheduler " + n + ";").setScheduler(0), n);
            fault("scheduler;", 9);
            fault("scheduler 1 1;", 12);
        });
        doc.says("priority f n        setPriority(f, n)", () -> {
            for (int f = 0; f < 6; f++) {
                Check.due("priority", after("priority " + f + " 9;").setPriority(f, 0), 9);
                Check.due("priority", after("priority " + f + " 0;").setPriority(f, 0), 0);
                Check.due("another flow", after("priority " + f + " 0;").setPriority((f + 1) % 6, 0), 5);
            }
            fault("priority;", 8);
            fault("priority 1;", 10);
            fault("priority 1 1 1;", 13);
        });
        doc.says("measure n           setMeasure(n)", () -> {
            for (int n = 0; n < 3; n++) Check.due("measure", after("measure " + n + ";").setMeasure(0), n);
            fault("measure;", 7);
            fault("measure 1 1;", 10);
        });
    }

    private void faults() {
        doc.says("The fault of the text is the index of the first character of the first word, number or semicolon that is "
            + "not allowed at its place (also of a word that is no command, and of a number with more than 4 digits), or "
            + "of a character that begins none of these; it is the length of the text if the text ends too early.", () -> {
            fault("7", 0);
            fault("rate 1; 7", 8);
            fault("  ;", 2);
            fault("rate rate", 5);
            fault("rate 1 rate", 7);
            fault("rate1rate", 5);
            fault("rate 1 777", 7);
            fault("rate ;", 5);
            fault("rate 1;;", 7);
            fault("rates 1;", 0);
            fault("date 1;", 0);
            fault("rata 1;", 0);
            fault("rate 1; pol", 8);
            fault("factor 1;", 0);
            fault("threshold 1;", 0);
            fault("interval 2;", 0);
            fault("12345", 0);
            fault("rate  12345", 6);
            fault("rate 1 12345", 7);
            fault("rate 12345 ?", 5);
            fault("?", 0);
            fault("rate ~", 5);
            fault("rate 1!", 6);
            fault("rate 1;\"", 7);
            fault("rate 1?;", 6);
            fault("rate -1;", 5);
            fault("rate", 4);
            fault("rate ", 5);
            fault("rate 1", 6);
            fault("rate 1   ", 9);
            fault("packet 1 2", 10);
            fault(" packet", 7);
            StringBuilder full = new StringBuilder();
            for (int k = 0; k < 19; k++) full.append("rate1;");
            fault(full + "rate12", 120);
            fault(full + "rate1!", 119);
            fault(full + "     ;", 119);
        });
    }

    private static QueueBlame prepared() {
        QueueBlame x = Check.with(5, 1, 10, 5, 2, 95);
        Check.write(x, "capacity 77;packet 0 0 1;");
        return x;
    }

    private static void undoes(String what, Change change) {
        QueueBlame x = prepared();
        long before = x.checksum();
        change.make(x);
        Check.due(what + " changes something", x.checksum() == before ? 1 : 0, 0);
        Check.due(what + " is saved", x.undo(), 2);
        Check.due(what + " is undone", x.checksum(), before);
    }

    private void saving() {
        doc.says("Every method that is marked \"undoable\" saves everything except the text and the latest replay, as it was "
            + "before the call, when it ends normally.", () -> {
            undoes("record", x -> x.record(0, 0, 1));
            undoes("erase", x -> x.erase(0));
            undoes("setCapacity", x -> x.setCapacity(1000));
            undoes("setRate", x -> x.setRate(1));
            undoes("setPolicy", x -> x.setPolicy(4));
            undoes("setScheduler", x -> x.setScheduler(2));
            undoes("setFactor", x -> x.setFactor(16));
            undoes("setThreshold", x -> x.setThreshold(0));
            undoes("setInterval", x -> x.setInterval(9));
            undoes("setMeasure", x -> x.setMeasure(2));
            for (int flow = 0; flow < 6; flow++) {
                int f = flow;
                undoes("setPriority", x -> x.setPriority(f, 9));
            }
            undoes("run", QueueBlame::run);
            QueueBlame x = prepared();
            x.replay(63);
            x.setRate(1);
            x.replay(2);
            x.type('!');
            Check.due("undo", x.undo(), 2);
            Check.due("the text stays", x.fault(), 25);
            Check.due("the latest replay stays", x.fate(0) + 1000 * x.fate(1), 14 - 3000);
            Check.throwsArgument("a refused call", () -> x.setRate(0));
            Check.throwsArgument("a refused run", x::run);
            Check.throwsIndex("a refused erase", () -> x.erase(2));
            Check.throwsIndex("a refused record", () -> x.record(0, 6, 1));
            x.replay(63);
            x.clearText();
            Check.due("nothing of this is saved", x.undo(), 1);
        });
        doc.says("The latest 8 saved states are kept.", () -> {
            for (int changes = 1; changes <= 20; changes++) {
                QueueBlame x = new QueueBlame();
                for (int k = 1; k <= changes; k++) x.setCapacity(k);
                int kept = Math.min(changes, 8);
                for (int left = kept - 1; left >= 0; left--) Check.due("undo", x.undo(), left);
                Check.throwsState("no more", x::undo);
                Check.due("the oldest", x.setCapacity(500), changes <= 8 ? 100 : changes - 8);
            }
            QueueBlame x = new QueueBlame();
            for (int k = 1; k <= 9; k++) x.setCapacity(k);
            Check.due("undo", x.undo() + x.undo() + x.undo(), 7 + 6 + 5);
            for (int k = 10; k <= 13; k++) x.setCapacity(k);
            for (int left = 7; left >= 0; left--) Check.due("undo", x.undo(), left);
            Check.due("the oldest", x.setCapacity(500), 2);
        });
    }

    private void typing() {
        doc.section("Promise 33");
        doc.says("Appends a character to the text.", () -> {
            QueueBlame x = text("rate 1");
            Check.due("fault", x.fault(), 6);
            x.type(';');
            Check.due("no fault", x.fault(), -1);
            x.type(';');
            Check.due("fault at the end", x.fault(), 7);
        });
        doc.says("- `c`: its code, 32 to 126", () -> {
            QueueBlame x = new QueueBlame();
            Check.due("code 32", x.type(32), 1);
            Check.due("code 32 is a space", x.fault(), -1);
            Check.due("code 126", x.type(126), 2);
            Check.due("code 126 begins nothing", x.fault(), 1);
        });
        doc.says("Returns the length of the text then.", () -> {
            QueueBlame x = new QueueBlame();
            for (int k = 1; k <= 120; k++) Check.due("length", x.type('a'), k);
            x.clearText();
            Check.due("length after clearText", x.type('a'), 1);
        });
        doc.says("Throws `IllegalArgumentException` if c is out of range", () -> {
            QueueBlame x = new QueueBlame();
            for (int c : new int[] {31, 127, 0, -1, 9, 10, 256 + 65, Integer.MIN_VALUE, Integer.MAX_VALUE}) {
                Check.throwsArgument("code " + c, () -> x.type(c));
            }
            Check.due("the text is empty", x.clearText(), 0);
        });
        doc.says("Throws `IllegalStateException` if the text has 120 characters", () -> {
            QueueBlame x = new QueueBlame();
            for (int k = 1; k <= 119; k++) x.type(' ');
            Check.due("the 120th", x.type(' '), 120);
            Check.throwsState("the 121st", () -> x.type(' '));
            Check.throwsState("again", () -> x.type(126));
            Check.due("the text stays", x.fault(), -1);
            Check.due("its length", x.clearText(), 120);
            Check.due("room again", x.type(' '), 1);
        });
    }

    private void clearText() {
        doc.section("Promise 34");
        doc.says("Empties the text.", () -> {
            QueueBlame x = text("rate 1");
            x.clearText();
            Check.due("no fault", x.fault(), -1);
            Check.due("no commands", x.run(), 0);
            Check.write(x, "policy 1;");
            Check.due("nothing is left of the old one", x.run(), 1);
            QueueBlame longer = after("rate 1;rate 2;rate 3;");
            longer.clearText();
            Check.due("no commands of a longer one", longer.run(), 0);
            Check.write(longer, "rate 4;");
            Check.due("one command, not three", longer.run(), 1);
            Check.due("the rate of the new one", longer.setRate(1), 4);
        });
        doc.says("Returns the length that it had.", () -> {
            QueueBlame x = new QueueBlame();
            Check.due("empty", x.clearText(), 0);
            x.type('a');
            Check.due("one", x.clearText(), 1);
            Check.due("empty again", x.clearText(), 0);
            for (int k = 0; k < 120; k++) x.type(' ');
            Check.due("full", x.clearText(), 120);
        });
    }

    private void fault() {
        doc.section("Promise 35");
        doc.says("Returns the fault, an index from 0; NONE if the text is a script.", () -> {
            QueueBlame x = new QueueBlame();
            Check.due("an empty text", x.fault(), -1);
            x.type(';');
            Check.due("index 0", x.fault(), 0);
            Check.due("index 0 again", x.fault(), 0);
            x.clearText();
            for (int k = 0; k < 119; k++) x.type(' ');
            x.type('5');
            Check.due("index 119", x.fault(), 119);
            x.clearText();
            for (int k = 0; k < 116; k++) x.type(' ');
            Check.write(x, "rate");
            Check.due("index 120", x.fault(), 120);
            Check.due("nothing was saved or changed", x.packets(), 0);
            Check.throwsState("nothing was saved", x::undo);
        });
    }

    private void run() {
        doc.section("Promise 36");
        doc.says("Carries out the script of the text, which stays.", () -> {
            QueueBlame x = text("packet 9 1 20;rate 3;rate 4;");
            x.run();
            Check.due("packet", x.packets(), 1);
            Check.due("in their order", x.setRate(5), 4);
            Check.due("once more", x.run(), 3);
            Check.due("packets", x.packets(), 2);
            Check.due("the text stays", x.clearText(), 28);
        });
        doc.says("A command whose call would throw an exception is skipped.", () -> {
            ran("packet 501 0 1;", 0);
            ran("packet 0 6 1;", 0);
            ran("packet 0 0 0;", 0);
            ran("packet 0 0 101;", 0);
            ran("capacity 0;capacity 1001;", 0);
            ran("rate 0;rate 101;", 0);
            ran("policy 5;", 0);
            ran("scheduler 3;", 0);
            ran("priority 6 0;priority 0 10;", 0);
            ran("measure 3;", 0);
            QueueBlame x = text("rate 0;rate 7;rate 101;packet 1 1 1;packet 1 9 1;packet 1 2 1;");
            Check.due("those between are carried out", x.run(), 3);
            Check.due("rate", x.setRate(10), 7);
            Check.due("packets", x.packets(), 2);
            QueueBlame full = text("packet 0 1 1;packet 0 2 1;rate 7;");
            for (int k = 0; k < 39; k++) full.record(0, 0, 1);
            Check.due("room for one packet", full.run(), 2);
            Check.due("the first of them", full.packet(39, 1), 1);
            Check.due("room for none", full.run(), 1);
        });
        doc.says("All of it is one undoable change (also if all commands are skipped, or there are none).", () -> {
            QueueBlame x = text("packet 0 0 1;rate 7;policy 2;packet 3 3 3;");
            long before = x.checksum();
            Check.due("run", x.run(), 4);
            Check.due("undo", x.undo(), 0);
            Check.due("checksum", x.checksum(), before);
            QueueBlame skipped = text("rate 0;policy 9;");
            Check.due("all are skipped", skipped.run(), 0);
            Check.due("undo", skipped.undo(), 0);
            QueueBlame none = new QueueBlame();
            Check.due("there are none", none.run(), 0);
            Check.due("there are none", none.run(), 0);
            Check.due("undo", none.undo(), 1);
            Check.due("undo", none.undo(), 0);
            QueueBlame many = text("rate 1;rate 2;rate 3;rate 4;rate 5;rate 6;rate 7;rate 8;rate 9;");
            many.setRate(99);
            Check.due("more commands than saved states", many.run(), 9);
            Check.due("undo", many.undo(), 1);
            Check.due("the rate before", many.setRate(1), 99);
        });
        doc.says("Returns the number of commands that were not skipped.", () -> {
            ran("", 0);
            ran("    ", 0);
            ran("rate 1;", 1);
            ran("rate 10;", 1);
            ran("rate 1;rate 101;rate 1;", 2);
            ran("rate 101;", 0);
        });
        doc.says("Throws `IllegalArgumentException` if the text has a fault", () -> {
            for (String text : new String[] {";", "rate", "rate 1", "rate 7;rate", "rate 7;x", "rate 7;;", "rate 12345;"}) {
                QueueBlame x = text(text);
                Check.throwsArgument("run of \"" + text + "\"", x::run);
                Check.due("nothing was carried out", x.setRate(1), 10);
                Check.due("nothing was saved", x.undo(), 0);
            }
        });
    }

    private void undo() {
        doc.section("Promise 37");
        doc.says("Restores the state that was saved last; it is not saved any more then.", () -> {
            QueueBlame x = new QueueBlame();
            x.setCapacity(1);
            x.setCapacity(2);
            x.setCapacity(3);
            x.undo();
            Check.due("the last", x.setCapacity(4), 2);
            x.undo();
            x.undo();
            Check.due("the one before", x.setCapacity(5), 1);
            x.undo();
            x.undo();
            Check.throwsState("none is left", x::undo);
            Check.due("the first", x.setCapacity(6), 100);
            QueueBlame packets = Check.with(1, 1, 1, 2, 2, 2, 3, 3, 3);
            long before = packets.checksum();
            packets.erase(0);
            packets.record(2, 5, 9);
            packets.undo();
            packets.undo();
            Check.due("the packets too", packets.checksum(), before);
        });
        doc.says("Returns how many states are still saved.", () -> {
            QueueBlame x = new QueueBlame();
            for (int k = 1; k <= 9; k++) x.setCapacity(k);
            for (int left = 7; left >= 0; left--) Check.due("undo", x.undo(), left);
            x.run();
            Check.due("undo", x.undo(), 0);
        });
        doc.says("Throws `IllegalStateException` if none is saved", () -> {
            QueueBlame x = new QueueBlame();
            Check.throwsState("at first", x::undo);
            x.setCapacity(1);
            x.undo();
            Check.throwsState("after the only one", x::undo);
            Check.throwsState("again", x::undo);
            Check.due("it stays as it was", x.setCapacity(1), 100);
        });
    }

    private static long next(long h, long... values) {
        long sum = h;
        for (long v : values) sum = 31 * sum + v;
        return sum;
    }

    private static long worths(QueueBlame x, long h) {
        long sum = h;
        for (int set = 0; set < 64; set++) sum = next(sum, x.worth(set));
        return sum;
    }

    private void checksum() {
        doc.section("Promise 38");
        doc.says("It starts with h = 18505, and for each of the following numbers v, in order, h becomes 31 * h + v (long "
            + "arithmetic that wraps): the number of packets; for each packet its time, flow and size; the capacity, rate, "
            + "policy, scheduler, factor, threshold, interval and measure; the priorities of the flows 0 to 5; v(S) for S = 0 "
            + "to 63; the length of the text; how many states are saved.", () -> {
            Check.due("a new object", new QueueBlame().checksum(), 5854592597389453544L);
            QueueBlame x = new QueueBlame();
            long packets = next(18505, 40);
            for (int k = 0; k < 40; k++) {
                x.record(12 * k, k % 6, 100 - k);
                packets = next(packets, 12 * k, k % 6, 100 - k);
            }
            x.setCapacity(101);
            x.setRate(11);
            x.setPolicy(1);
            x.setScheduler(2);
            x.setFactor(7);
            x.setThreshold(55);
            x.setInterval(8);
            x.setMeasure(2);
            for (int flow = 0; flow < 6; flow++) x.setPriority(flow, 9 - flow);
            long h = next(packets, 101, 11, 1, 2, 7, 55, 8, 2, 9, 8, 7, 6, 5, 4);
            Check.due("40 packets, no text, 8 states", x.checksum(), next(worths(x, h), 0, 8));
            for (int k = 0; k < 120; k++) x.type('a');
            x.undo();
            h = next(packets, 101, 11, 1, 2, 7, 55, 8, 2, 9, 8, 7, 6, 5, 5);
            Check.due("a full text, 7 states", x.checksum(), next(worths(x, h), 120, 7));
        });
    }
}
