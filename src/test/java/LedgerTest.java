/** Promises 26 to 29: the ledger. */
public final class LedgerTest {
    public static void main(String[] args) {
        everyFate();
        noSuchEntries();
        fullLedger();
        Check.end("LedgerTest");
    }

    private static void everyFate() {
        LogSpooler x = new LogSpooler();
        x.setRate(2, 1);
        x.setRule(0, 1, 7, LogSpooler.NONE, 0);
        x.setRule(1, 3, 3, LogSpooler.NONE, 2);
        x.setRule(2, 1, 0, LogSpooler.NONE, LogSpooler.FORWARD);
        int[] fates = {3, 0, 3, 1, 3, 2, 0, 0, 3};
        int[] targets = {1 + 4 + 16, 0, 1, 0, 1 + 4 + 16, 0, 0, 0, 4};
        int[][] messages = {{0, 0, 0}, {0, 0, 0}, {0, 0, 7}, {0, 1, 7}, {1, 0, 0}, {1, 2, 2}, {1, 2, 2}, {1, 2, 2}, {2, 1, 3}};
        for (int i = 0; i < messages.length; i++) {
            int fate = x.message(messages[i][0], messages[i][1], messages[i][2], 0, 1);
            Check.due(7, "message " + i, fates[i], fate);
            Check.due(26, "messages", i + 1, x.messages());
        }
        for (int i = 0; i < fates.length; i++) {
            Check.due(27, "fateOf(" + i + ")", fates[i], x.fateOf(i));
            Check.due(29, "targetsOf(" + i + ")", targets[i], x.targetsOf(i));
        }
        Check.due(28, "count(FOLDED)", 3, x.count(LogSpooler.FOLDED));
        Check.due(28, "count(LIMITED)", 1, x.count(LogSpooler.LIMITED));
        Check.due(28, "count(UNROUTED)", 1, x.count(LogSpooler.UNROUTED));
        Check.due(28, "count(ROUTED)", 4, x.count(LogSpooler.ROUTED));
        x.pass(100);
        x.removeRule(0);
        Check.due(26, "messages, told repeats are none", 9, x.messages());
        Check.due(29, "targetsOf stays", 21, x.targetsOf(0));
    }

    private static void noSuchEntries() {
        LogSpooler x = Check.allTo(0);
        Check.refused(27, "fateOf(0) of none", Check.INDEX, () -> x.fateOf(0));
        Check.refused(29, "targetsOf(0) of none", Check.INDEX, () -> x.targetsOf(0));
        x.message(0, 0, 0, 0, 1);
        x.message(0, 0, 0, 0, 1);
        for (int bad : new int[] {-1, 2, 399, 400, Integer.MIN_VALUE, Integer.MAX_VALUE}) {
            Check.refused(27, "fateOf(" + bad + ")", Check.INDEX, () -> x.fateOf(bad));
            Check.refused(29, "targetsOf(" + bad + ")", Check.INDEX, () -> x.targetsOf(bad));
        }
        for (int bad : new int[] {-1, 4, Integer.MIN_VALUE, Integer.MAX_VALUE}) {
            Check.refused(28, "count(" + bad + ")", Check.INDEX, () -> x.count(bad));
        }
    }

    private static void fullLedger() {
        LogSpooler x = Check.allTo(3);
        for (int i = 0; i < 400; i++) {
            x.message(i % 5, 0, 0, i % 2, 1);
        }
        Check.due(26, "messages", 400, x.messages());
        int sum = 0;
        for (int fate = 0; fate < 4; fate++) {
            sum += x.count(fate);
        }
        Check.due(28, "counts of all fates", 400, sum);
        Check.due(27, "fateOf the last one", LogSpooler.LIMITED, x.fateOf(399));
        Check.refused(27, "fateOf(400)", Check.INDEX, () -> x.fateOf(400));
        Check.refused(29, "targetsOf(400)", Check.INDEX, () -> x.targetsOf(400));
    }
}
