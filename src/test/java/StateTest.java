/** Promises 14 to 21: senders and files as they are. */
public final class StateTest {
    private static final int NONE = LogSpooler.NONE;
    private static final int[] NO_SENDERS = {-1, 6, Integer.MIN_VALUE, Integer.MAX_VALUE};
    private static final int[] NO_FILES = {-1, 4, Integer.MIN_VALUE, Integer.MAX_VALUE};

    public static void main(String[] args) {
        time();
        senders();
        files();
        generations();
        Check.end("StateTest");
    }

    private static void time() {
        LogSpooler x = new LogSpooler();
        Check.due(14, "time", 0, x.time());
        x.message(0, 0, 0, 0, 1);
        x.connect();
        Check.due(14, "time, not by other calls", 0, x.time());
        x.pass(37);
        Check.due(14, "time", 37, x.time());
        for (int i = 0; i < 100; i++) {
            x.pass(100);
        }
        Check.due(14, "time", 10037, x.time());
    }

    private static void senders() {
        LogSpooler x = new LogSpooler();
        for (int bad : NO_SENDERS) {
            Check.refused(15, "tokens(" + bad + ")", Check.INDEX, () -> x.tokens(bad));
            Check.refused(16, "repeats(" + bad + ")", Check.INDEX, () -> x.repeats(bad));
            Check.refused(17, "drops(" + bad + ")", Check.INDEX, () -> x.drops(bad));
        }
        for (int sender = 0; sender < 6; sender++) {
            for (int i = 0; i <= sender; i++) {
                x.message(sender, 0, 0, i, 1);
            }
        }
        for (int sender = 0; sender < 6; sender++) {
            Check.due(15, "tokens of sender " + sender, Math.max(0, 4 - sender), x.tokens(sender));
            Check.due(17, "drops of sender " + sender, sender == 5 ? 1 : 0, x.drops(sender));
        }
        for (int sender = 0; sender < 6; sender++) {
            for (int i = 0; i < sender; i++) {
                x.message(sender, 0, 0, Math.min(sender, 4), 1);
            }
            Check.due(16, "repeats of sender " + sender, sender, x.repeats(sender));
        }
        Check.due(16, "repeats of sender 1, still", 1, x.repeats(1));
    }

    private static void files() {
        LogSpooler x = Check.allTo(1);
        x.setRule(1, 2, 7, NONE, 3);
        for (int bad : NO_FILES) {
            Check.refused(18, "size(" + bad + ")", Check.INDEX, () -> x.size(bad));
            Check.refused(19, "lines(" + bad + ", NONE)", Check.INDEX, () -> x.lines(bad, NONE));
            Check.refused(20, "line(" + bad + ", NONE, 0)", Check.INDEX, () -> x.line(bad, NONE, 0));
            Check.refused(21, "generations(" + bad + ")", Check.INDEX, () -> x.generations(bad));
        }
        Check.refused(20, "line of an empty file", Check.INDEX, () -> x.line(1, NONE, 0));
        x.message(0, 1, 0, 0, 50);
        x.message(0, 2, 0, 0, 70);
        Check.due(18, "size of file 1", 120, x.size(1));
        Check.due(18, "size of file 3", 50, x.size(3));
        Check.due(18, "size of file 0", 0, x.size(0));
        Check.due(19, "lines of file 1", 2, x.lines(1, NONE));
        Check.due(19, "lines of file 3", 1, x.lines(3, NONE));
        Check.due(19, "lines of file 0", 0, x.lines(0, NONE));
        Check.due(20, "line", 0, x.line(1, NONE, 0));
        Check.due(20, "line", 1, x.line(1, NONE, 1));
        for (int bad : new int[] {-1, 2, Integer.MIN_VALUE, Integer.MAX_VALUE}) {
            Check.refused(20, "line(1, NONE, " + bad + ")", Check.INDEX, () -> x.line(1, NONE, bad));
        }
    }

    private static void generations() {
        LogSpooler x = Check.allTo(1);
        x.setRate(50, 1);
        x.pass(50);
        x.setFile(1, 1000, 0, 5);
        int text = 0;
        for (int g = 0; g < 7; g++) {
            Check.due(21, "generations", Math.min(g, 5), x.generations(1));
            for (int i = 0; i <= g; i++) {
                x.message(0, 0, 0, text, 2);
                text++;
            }
            x.rotate(1);
        }
        Check.due(21, "generations", 5, x.generations(1));
        x.message(0, 0, 0, 99, 9);
        Check.due(18, "size, without generations", 9, x.size(1));
        for (int g = 0; g < 5; g++) {
            Check.due(19, "lines of generation " + g, 7 - g, x.lines(1, g));
        }
        Check.dueLines(20, "[28]", x, 1, NONE);
        Check.dueLines(20, "[21 22 23 24 25 26 27]", x, 1, 0);
        Check.dueLines(20, "[3 4 5]", x, 1, 4);
        for (int bad : new int[] {-2, 5, 6, Integer.MIN_VALUE, Integer.MAX_VALUE}) {
            Check.refused(19, "lines(1, " + bad + ")", Check.INDEX, () -> x.lines(1, bad));
            Check.refused(20, "line(1, " + bad + ", 0)", Check.INDEX, () -> x.line(1, bad, 0));
        }
        Check.refused(20, "line(1, 4, 3)", Check.INDEX, () -> x.line(1, 4, 3));
        Check.refused(20, "line(1, 4, -1)", Check.INDEX, () -> x.line(1, 4, -1));
        Check.refused(19, "lines(0, 0) of a file without generations", Check.INDEX, () -> x.lines(0, 0));
    }
}
