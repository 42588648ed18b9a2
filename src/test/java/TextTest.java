/** Promises 33 to 36: type, clearText, fault, run. */
public final class TextTest {
    private static void fault(String text, int fault) {
        QueueBlame x = new QueueBlame();
        Check.write(x, text);
        Check.due("fault of \"" + text + "\"", x.fault(), fault);
        if (fault != -1) {
            Check.throwsArgument("run of \"" + text + "\"", x::run);
            Check.throwsState("run of \"" + text + "\" saved nothing", x::undo);
            Check.due("packets after \"" + text + "\"", x.packets(), 0);
        }
        Check.due("the text stays", x.clearText(), text.length());
    }

    private static void typing() {
        QueueBlame x = new QueueBlame();
        Check.throwsArgument("type 31", () -> x.type(31));
        Check.throwsArgument("type 127", () -> x.type(127));
        Check.throwsArgument("type -1", () -> x.type(-1));
        for (int k = 1; k <= 120; k++) Check.due("type", x.type(k % 2 == 0 ? 32 : 126), k);
        Check.throwsState("type 121st", () -> x.type(32));
        Check.throwsArgument("type 121st wrong", () -> x.type(31));
        Check.due("clearText", x.clearText(), 120);
        Check.due("clearText again", x.clearText(), 0);
        Check.due("type after it", x.type(59), 1);
        Check.due("fault after it", x.fault(), 0);
        Check.throwsState("typing is not saved", x::undo);
    }

    private static void scripts() {
        fault("", -1);
        fault("    ", -1);
        fault("packet 1 2 3;", -1);
        fault("capacity 1;rate 1;policy 1;scheduler 1;priority 1 1;measure 1;", -1);
        fault("  packet1 2  3 ; rate9999;policy0000  ;  ", -1);
        fault(";", 0);
        fault(" ;", 1);
        fault("rate 1;;", 7);
        fault("5", 0);
        fault("rate;", 4);
        fault("rate ;", 5);
        fault("rate 1 2;", 7);
        fault("rate 1 rate;", 7);
        fault("rate1rate", 5);
        fault("rate rate 1;", 5);
        fault("packet 1 2;", 10);
        fault("packet 1 2 3 4;", 13);
        fault("priority 1;", 10);
        fault("rat 1;", 0);
        fault("ratee 1;", 0);
        fault("rater 1;", 0);
        fault("ratez 1;", 0);
        fault("date 1;", 0);
        fault("rata 1;", 0);
        fault("rate 1; pol", 8);
        fault("threshold 1;", 0);
        fault("rate 12345;", 5);
        fault("rate 00001;", 5);
        fault("rate 12345", 5);
        fault("rate 1 12345;", 7);
        fault("Rate 1;", 0);
        fault("raTe 1;", 0);
        fault("rateX 1;", 4);
        fault("rate -1;", 5);
        fault("rate 1,", 6);
        fault("rate 1.5;", 6);
        fault("rate {1;", 5);
        fault("rate `1;", 5);
        fault("rate /1;", 5);
        fault("rate :1;", 5);
        fault("rate", 4);
        fault("rate  ", 6);
        fault("rate 1", 6);
        fault("rate 1  ", 8);
        fault("packet 1 2", 10);
        fault("rate 1;policy 1", 15);
    }

    /** What an earlier, longer text left behind must not be read. */
    private static void afterLongerTexts() {
        QueueBlame x = new QueueBlame();
        Check.write(x, "rate 5678;rate 2;rate 3;policy 1;policy 2;");
        Check.due("run of the longer text", x.run(), 4);
        x.clearText();
        Check.due("run of the empty text", x.run(), 0);
        Check.write(x, "rate 5");
        Check.due("fault", x.fault(), 6);
        x.type(';');
        Check.due("run of the shorter text", x.run(), 1);
        Check.due("rate", x.setRate(1), 5);
        Check.due("policy", x.setPolicy(1), 2);
        x.clearText();
        for (int k = 0; k < 19; k++) Check.write(x, "rate9;");
        Check.write(x, "rate10");
        Check.due("fault of a full text", x.fault(), 120);
        x.clearText();
        for (int k = 0; k < 20; k++) Check.write(x, "rate7;");
        Check.due("run of a full text", x.run(), 20);
        Check.throwsState("the text is full", () -> x.type(32));
    }

    private static void running() {
        QueueBlame x = new QueueBlame();
        Check.write(x, "packet 9 1 20;packet 3 2 30;capacity 7;rate 8;policy 3;scheduler 2;priority 4 6;measure 1;");
        Check.due("run", x.run(), 8);
        Check.due("packets", x.packets(), 2);
        Check.due("time of the first", x.packet(0, 0), 3);
        Check.due("flow of the first", x.packet(0, 1), 2);
        Check.due("size of the first", x.packet(0, 2), 30);
        Check.due("time of the second", x.packet(1, 0), 9);
        Check.due("run again", x.run(), 8);
        Check.due("packets then", x.packets(), 4);
        Check.due("capacity", x.setCapacity(100), 7);
        Check.due("rate", x.setRate(10), 8);
        Check.due("policy", x.setPolicy(0), 3);
        Check.due("scheduler", x.setScheduler(0), 2);
        Check.due("priority", x.setPriority(4, 5), 6);
        Check.due("measure", x.setMeasure(0), 1);
        for (int k = 0; k < 6; k++) x.undo();
        Check.due("undo of the second run", x.undo(), 1);
        Check.due("packets of the first run", x.packets(), 2);
        Check.due("undo of the first run", x.undo(), 0);
        Check.due("no packets", x.packets(), 0);
        Check.due("capacity at first", x.setCapacity(100), 100);
        Check.due("the text stays", x.clearText(), 90);
    }

    private static void skipping(String script, int carriedOut) {
        QueueBlame x = new QueueBlame();
        Check.write(x, script);
        Check.due("run of " + script, x.run(), carriedOut);
        Check.due("run of " + script + " is saved", x.undo(), 0);
    }

    private static void skipped() {
        skipping("", 0);
        skipping("   ", 0);
        skipping("packet 501 0 1;packet 500 0 1;", 1);
        skipping("packet 0 6 1;packet 0 5 1;", 1);
        skipping("packet 0 0 0;packet 0 0 101;packet 0 0 100;", 1);
        skipping("capacity 0;capacity 1001;capacity 1000;capacity 1;", 2);
        skipping("rate 0;rate 101;rate 100;rate 1;", 2);
        skipping("policy 5;policy 4;policy 0;", 2);
        skipping("scheduler 3;scheduler 2;scheduler 0;", 2);
        skipping("priority 6 0;priority 5 10;priority 5 9;priority 0 0;", 2);
        skipping("measure 3;measure 2;measure 0;", 2);
        skipping("measure 9999;", 0);
        QueueBlame x = new QueueBlame();
        for (int k = 0; k < 39; k++) x.record(0, 0, 1);
        Check.write(x, "packet 0 1 1;packet 0 2 1;capacity 5;");
        Check.due("run with room for one", x.run(), 2);
        Check.due("packets", x.packets(), 40);
        Check.due("the last packet's flow", x.packet(39, 1), 1);
        Check.due("run without room", x.run(), 1);
        Check.due("capacity", x.setCapacity(6), 5);
    }

    public static void main(String[] args) {
        typing();
        scripts();
        afterLongerTexts();
        running();
        skipped();
        Check.end();
    }
}
