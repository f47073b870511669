/** Promises 1 to 6: a new object, and what is set. */
public final class SettingsTest {
    private static final int NONE = LogSpooler.NONE;

    public static void main(String[] args) {
        newObject();
        firstFileRule();
        rateBounds();
        rateAndTokens();
        fold();
        foldOfZero();
        foldOfAnotherLength();
        ruleBounds();
        ruleFits();
        rulesAreCounted();
        rulesOfOneTarget();
        removal();
        fileBounds();
        fileKept();
        fileSize();
        fileAge();
        Check.end("SettingsTest");
    }

    private static void newObject() {
        LogSpooler x = new LogSpooler();
        Check.due(1, "time", 0, x.time());
        for (int sender = 0; sender < 6; sender++) {
            Check.due(1, "tokens", 5, x.tokens(sender));
            Check.due(1, "repeats", 0, x.repeats(sender));
            Check.due(1, "drops", 0, x.drops(sender));
        }
        for (int file = 0; file < 4; file++) {
            Check.due(1, "size", 0, x.size(file));
            Check.due(1, "lines", 0, x.lines(file, NONE));
            Check.due(1, "generations", 0, x.generations(file));
        }
        Check.due(1, "queued", 0, x.queued());
        Check.due(1, "inFlight", 0, x.inFlight());
        Check.due(1, "acknowledged", 0, x.acknowledged());
        Check.due(1, "lost", 0, x.lost());
        Check.due(1, "messages", 0, x.messages());
        for (int fate = LogSpooler.FOLDED; fate <= LogSpooler.ROUTED; fate++) {
            Check.due(1, "count", 0, x.count(fate));
        }
        Check.refused(1, "disconnect of a new object", Check.STATE, x::disconnect);
        Check.due(1, "no rules: message", LogSpooler.UNROUTED, x.message(0, 0, 0, 0, 1));
        LogSpooler other = new LogSpooler();
        Check.due(1, "messages of another object", 0, other.messages());
        Check.due(1, "tokens of another object", 5, other.tokens(0));
    }

    private static void firstFileRule() {
        LogSpooler x = Check.allTo(1);
        x.setRate(50, 1);
        x.pass(50);
        for (int text = 0; text < 15; text++) {
            x.message(0, 0, 0, text, 200);
        }
        x.message(0, 0, 0, 15, 1);
        Check.due(1, "size, as 1001 is too much at first", 1, x.size(1));
        Check.due(1, "generations, as 2 are kept at first", 2, x.generations(1));
        Check.dueLines(1, "[10 11 12 13 14]", x, 1, 0);
        Check.dueLines(1, "[5 6 7 8 9]", x, 1, 1);
    }

    private static void rateBounds() {
        LogSpooler x = new LogSpooler();
        int[][] bad = {{0, 10}, {51, 10}, {5, 0}, {5, 61}, {-1, 10}, {5, -1},
            {Integer.MAX_VALUE, 10}, {5, Integer.MIN_VALUE}};
        for (int[] a : bad) {
            Check.refusedAndUnchanged(2, "setRate(" + a[0] + ", " + a[1] + ")", Check.ARGUMENT, x,
                    () -> x.setRate(a[0], a[1]));
        }
        x.message(0, 0, 0, 0, 1);
        x.pass(10);
        Check.due(2, "tokens, as a refused setRate sets nothing", 5, x.tokens(0));
        Check.due(2, "setRate(1, 1)", 5, x.setRate(1, 1));
        Check.due(2, "setRate(50, 60)", 1, x.setRate(50, 60));
        Check.due(2, "setRate(7, 3)", 50, x.setRate(7, 3));
    }

    private static void rateAndTokens() {
        LogSpooler x = new LogSpooler();
        x.setRate(8, 4);
        Check.due(2, "tokens after a higher burst", 5, x.tokens(2));
        x.pass(3);
        Check.due(2, "tokens before the token time", 5, x.tokens(2));
        x.pass(1);
        Check.due(2, "tokens at the token time", 6, x.tokens(2));
        x.pass(100);
        Check.due(2, "tokens at most the burst", 8, x.tokens(2));
        x.message(1, 0, 0, 0, 1);
        x.setRate(3, 4);
        Check.due(2, "tokens of 7, capped", 3, x.tokens(1));
        Check.due(2, "tokens of 8, capped", 3, x.tokens(2));
        x.message(1, 0, 0, 1, 1);
        x.message(1, 0, 0, 2, 1);
        x.setRate(2, 4);
        Check.due(2, "tokens below the burst stay", 1, x.tokens(1));
        Check.due(2, "time is a multiple of 8", 104, x.time());
        x.setRate(2, 8);
        Check.due(2, "no token comes by setRate itself", 1, x.tokens(1));
        x.pass(7);
        Check.due(2, "tokens 7 seconds later", 1, x.tokens(1));
        x.pass(1);
        Check.due(2, "tokens 8 seconds later", 2, x.tokens(1));
        tokenTimeCountsFromZero();
    }

    private static void tokenTimeCountsFromZero() {
        LogSpooler x = new LogSpooler();
        x.message(0, 0, 0, 0, 1);
        x.message(0, 0, 0, 1, 1);
        x.pass(4);
        x.setRate(5, 6);
        x.pass(1);
        Check.due(2, "tokens at time 5", 3, x.tokens(0));
        x.pass(1);
        Check.due(2, "tokens at time 6", 4, x.tokens(0));
        x.setRate(5, 60);
        x.pass(53);
        Check.due(2, "tokens at time 59", 4, x.tokens(0));
        x.pass(1);
        Check.due(2, "tokens at time 60", 5, x.tokens(0));
    }

    private static void fold() {
        LogSpooler x = new LogSpooler();
        for (int bad : new int[] {-1, 101, Integer.MIN_VALUE, Integer.MAX_VALUE}) {
            Check.refusedAndUnchanged(3, "setFold(" + bad + ")", Check.ARGUMENT, x, () -> x.setFold(bad));
        }
        Check.due(3, "setFold(0)", 30, x.setFold(0));
        Check.due(3, "setFold(100)", 0, x.setFold(100));
        Check.due(3, "setFold(1)", 100, x.setFold(1));
    }

    private static void foldOfZero() {
        LogSpooler x = Check.allTo(0);
        x.setFold(0);
        x.message(0, 1, 1, 1, 1);
        Check.due(3, "a repeat with fold time 0", LogSpooler.ROUTED, x.message(0, 1, 1, 1, 1));
        x.setFold(30);
        Check.due(3, "a repeat", LogSpooler.FOLDED, x.message(0, 1, 1, 1, 1));
        Check.due(3, "a repeat of another sender's", LogSpooler.ROUTED, x.message(1, 1, 1, 1, 1));
        Check.due(3, "a repeat of that", LogSpooler.FOLDED, x.message(1, 1, 1, 1, 1));
        x.setFold(0);
        Check.due(3, "repeats stay counted", 1, x.repeats(0));
        Check.due(3, "next message", LogSpooler.ROUTED, x.message(0, 1, 1, 1, 1));
        Check.due(3, "repeats are told with the next message", 0, x.repeats(0));
        Check.dueLines(3, "[0 1 3 10001 5]", x, 0, NONE);
        x.pass(1);
        Check.due(3, "repeats are told with the next second", 0, x.repeats(1));
        Check.dueLines(3, "[0 1 3 10001 5 20001]", x, 0, NONE);
    }

    private static void foldOfAnotherLength() {
        LogSpooler x = Check.allTo(0);
        x.setFold(100);
        x.message(0, 1, 1, 1, 1);
        x.message(0, 1, 1, 1, 1);
        x.pass(50);
        Check.due(3, "repeats after 50 of 100 seconds", 1, x.repeats(0));
        x.setFold(50);
        Check.due(3, "setFold itself tells nothing", 1, x.repeats(0));
        x.pass(1);
        Check.due(3, "repeats after 51 of 50 seconds", 0, x.repeats(0));
        x.message(0, 1, 1, 1, 1);
        x.setFold(100);
        x.pass(99);
        Check.due(3, "repeats after 99 of 100 seconds", 1, x.repeats(0));
        x.pass(1);
        Check.due(3, "repeats after 100 of 100 seconds", 0, x.repeats(0));
    }

    private static void ruleBounds() {
        LogSpooler x = new LogSpooler();
        int[][] noSuch = {{-1, 255, 7, 0, 0}, {6, 255, 7, 0, 0}, {0, 255, 7, -2, 0}, {0, 255, 7, 6, 0},
            {6, 256, 8, 0, 5}, {0, 256, 8, 6, 5}, {Integer.MIN_VALUE, 255, 7, 0, 0},
            {0, 255, 7, Integer.MAX_VALUE, 0}};
        for (int[] a : noSuch) {
            Check.refused(4, "setRule(" + a[0] + ", " + a[1] + ", " + a[2] + ", " + a[3] + ", " + a[4] + ")",
                    Check.INDEX, () -> x.setRule(a[0], a[1], a[2], a[3], a[4]));
        }
        int[][] bad = {{0, -1, 7, 0, 0}, {0, 256, 7, 0, 0}, {0, 255, -1, 0, 0}, {0, 255, 8, 0, 0},
            {0, 255, 7, 0, -1}, {0, 255, 7, 0, 5}, {0, Integer.MAX_VALUE, 7, NONE, 0}};
        for (int[] a : bad) {
            Check.refused(4, "setRule(" + a[0] + ", " + a[1] + ", " + a[2] + ", " + a[3] + ", " + a[4] + ")",
                    Check.ARGUMENT, () -> x.setRule(a[0], a[1], a[2], a[3], a[4]));
        }
        Check.due(4, "message, as a refused setRule sets nothing", LogSpooler.UNROUTED, x.message(0, 0, 0, 0, 1));
        Check.due(4, "first rule that is set", 1, x.setRule(0, 0, 0, NONE, 0));
    }

    private static void ruleFits() {
        LogSpooler x = new LogSpooler();
        x.setRate(50, 1);
        x.pass(50);
        x.setRule(3, 1 + 4 + 128, 3, 5, 2);
        int[][] fit = {{5, 0, 3}, {5, 2, 3}, {5, 7, 3}, {5, 7, 0}};
        for (int[] m : fit) {
            Check.due(4, "fit of facility " + m[1] + ", severity " + m[2],
                    LogSpooler.ROUTED, x.message(m[0], m[1], m[2], x.messages(), 1));
            Check.due(4, "its targets", 4, x.targetsOf(x.messages() - 1));
        }
        int[][] unfit = {{5, 1, 3}, {5, 6, 3}, {5, 0, 4}, {5, 0, 7}, {4, 0, 3}, {0, 2, 0}};
        for (int[] m : unfit) {
            Check.due(4, "no fit of sender " + m[0] + ", facility " + m[1] + ", severity " + m[2],
                    LogSpooler.UNROUTED, x.message(m[0], m[1], m[2], x.messages(), 1));
        }
        x.setRule(3, 2, 7, NONE, 1);
        Check.due(4, "what it was is gone", LogSpooler.UNROUTED, x.message(5, 0, 3, 50, 1));
        Check.due(4, "what it is fits", LogSpooler.ROUTED, x.message(2, 1, 7, 51, 1));
        Check.due(4, "its target", 2, x.targetsOf(x.messages() - 1));
        x.setRule(3, 0, 7, NONE, 1);
        Check.due(4, "an empty set", LogSpooler.UNROUTED, x.message(2, 1, 7, 52, 1));
        x.setRule(3, 255, 0, 0, 4);
        Check.due(4, "severity 0 of sender 0", LogSpooler.ROUTED, x.message(0, 3, 0, 53, 1));
        Check.due(4, "its target", 16, x.targetsOf(x.messages() - 1));
        Check.due(4, "severity 1 of sender 0", LogSpooler.UNROUTED, x.message(0, 3, 1, 54, 1));
    }

    private static void rulesAreCounted() {
        LogSpooler x = new LogSpooler();
        int[] order = {5, 0, 3, 1, 4, 2};
        for (int i = 0; i < order.length; i++) {
            Check.due(4, "setRule of rule " + order[i], i + 1, x.setRule(order[i], 1, 1, NONE, 1));
            Check.due(4, "setRule of it again", i + 1, x.setRule(order[i], 255, 7, i, 4));
        }
        x.removeRule(3);
        Check.due(4, "setRule after a removal", 5, x.setRule(5, 1, 1, NONE, 1));
        Check.due(4, "setRule of what was removed", 6, x.setRule(3, 1, 1, NONE, 1));
    }

    private static void rulesOfOneTarget() {
        LogSpooler x = new LogSpooler();
        x.setRule(0, 255, 7, NONE, 1);
        x.setRule(1, 255, 7, 0, 1);
        x.setRule(2, 255, 7, NONE, 4);
        x.setRule(4, 255, 7, NONE, 4);
        x.setRule(5, 255, 7, NONE, 3);
        x.message(0, 0, 0, 0, 10);
        Check.due(4, "targets", 2 + 8 + 16, x.targetsOf(0));
        Check.dueLines(4, "[0]", x, 1, NONE);
        Check.dueLines(4, "[0]", x, 3, NONE);
        Check.dueLines(4, "[]", x, 0, NONE);
        Check.due(4, "queued, once", 1, x.queued());
    }

    private static void removal() {
        LogSpooler x = Check.allTo(0);
        x.setRule(1, 255, 7, NONE, 1);
        for (int bad : new int[] {-1, 6, Integer.MIN_VALUE, Integer.MAX_VALUE}) {
            Check.refused(5, "removeRule(" + bad + ")", Check.INDEX, () -> x.removeRule(bad) ? 1 : 0);
        }
        Check.due(5, "removeRule of one not set", 0, x.removeRule(5) ? 1 : 0);
        Check.due(5, "removeRule", 1, x.removeRule(0) ? 1 : 0);
        Check.due(5, "removeRule again", 0, x.removeRule(0) ? 1 : 0);
        x.message(0, 0, 0, 0, 1);
        Check.due(5, "targets without it", 2, x.targetsOf(0));
        x.removeRule(1);
        Check.due(5, "message without rules", LogSpooler.UNROUTED, x.message(0, 0, 0, 1, 1));
        Check.due(5, "setRule after it", 1, x.setRule(0, 255, 7, NONE, 0));
    }

    private static void fileBounds() {
        LogSpooler x = Check.allTo(0);
        x.message(0, 0, 0, 0, 77);
        for (int file : new int[] {-1, 4, Integer.MIN_VALUE, Integer.MAX_VALUE}) {
            Check.refusedAndUnchanged(6, "setFile of file " + file, Check.INDEX, x, () -> x.setFile(file, 200, 0, 0));
            Check.refused(6, "setFile of file " + file + ", all wrong", Check.INDEX, () -> x.setFile(file, 0, -1, -1));
        }
        int[][] bad = {{199, 0, 0}, {5001, 0, 0}, {200, -1, 0}, {200, 1001, 0}, {200, 0, -1}, {200, 0, 6},
            {Integer.MIN_VALUE, 0, 0}, {200, Integer.MAX_VALUE, 0}, {200, 0, Integer.MAX_VALUE}};
        for (int[] a : bad) {
            Check.refusedAndUnchanged(6, "setFile(0, " + a[0] + ", " + a[1] + ", " + a[2] + ")", Check.ARGUMENT, x,
                    () -> x.setFile(0, a[0], a[1], a[2]));
        }
        Check.due(6, "setFile of a file with a line", 77, x.setFile(0, 200, 0, 0));
        Check.due(6, "setFile at the highest", 77, x.setFile(0, 5000, 1000, 5));
        Check.due(6, "setFile of an empty file", 0, x.setFile(3, 200, 0, 0));
    }

    private static void fileKept() {
        LogSpooler x = Check.allTo(2);
        x.setRate(50, 1);
        x.pass(50);
        Check.due(6, "setFile", 0, x.setFile(2, 200, 0, 5));
        for (int text = 0; text < 8; text++) {
            x.message(0, 0, 0, text, 150);
        }
        Check.due(6, "generations of 5 kept", 5, x.generations(2));
        Check.dueLines(6, "[2]", x, 2, 4);
        Check.due(6, "setFile with 3 kept", 150, x.setFile(2, 200, 0, 3));
        Check.due(6, "generations of 3 kept", 3, x.generations(2));
        Check.dueLines(6, "[6]", x, 2, 0);
        Check.dueLines(6, "[4]", x, 2, 2);
        x.setFile(2, 200, 0, 5);
        Check.due(6, "what was deleted stays so", 3, x.generations(2));
        Check.refused(6, "line of a deleted generation", Check.INDEX, () -> x.line(2, 3, 0));
        x.rotate(2);
        Check.due(6, "generations grow again", 4, x.generations(2));
        Check.dueLines(6, "[7]", x, 2, 0);
        Check.dueLines(6, "[4]", x, 2, 3);
        Check.due(6, "setFile with none kept", 0, x.setFile(2, 200, 0, 0));
        Check.due(6, "generations of none kept", 0, x.generations(2));
        Check.due(6, "generations of another file", 0, x.generations(1));
    }

    private static void fileSize() {
        LogSpooler x = Check.allTo(1);
        x.setRate(50, 1);
        x.pass(50);
        for (int text = 0; text < 5; text++) {
            x.message(0, 0, 0, text, 200);
        }
        Check.due(6, "size 1000 at first", 1000, x.size(1));
        Check.due(1, "generations, as 1000 is not too much", 0, x.generations(1));
        Check.due(6, "setFile below the size", 1000, x.setFile(1, 400, 0, 2));
        Check.due(6, "lines, not rotated by setFile", 5, x.lines(1, NONE));
        x.message(0, 0, 0, 5, 1);
        Check.dueLines(6, "[5]", x, 1, NONE);
        Check.dueLines(6, "[0 1 2 3 4]", x, 1, 0);
        x.message(0, 0, 0, 6, 199);
        x.message(0, 0, 0, 7, 200);
        Check.due(6, "size 400 of 400", 400, x.size(1));
        x.message(0, 0, 0, 8, 1);
        Check.due(6, "size, rotated at 401 of 400", 1, x.size(1));
        x.setFile(1, 5000, 0, 2);
        for (int text = 10; text < 34; text++) {
            x.message(0, 0, 0, text, 200);
        }
        Check.due(6, "size of 5000", 4801, x.size(1));
    }

    private static void fileAge() {
        LogSpooler x = Check.allTo(1);
        x.message(0, 0, 0, 0, 10);
        x.pass(100);
        Check.due(6, "lines without an age", 1, x.lines(1, NONE));
        x.setFile(1, 1000, 1000, 2);
        x.pass(100);
        x.setFile(1, 1000, 201, 2);
        Check.due(6, "pass before the age", 1, x.pass(1));
        Check.due(6, "lines at the age", 0, x.lines(1, NONE));
        x.message(0, 0, 0, 1, 10);
        x.setFile(1, 1000, 0, 2);
        Check.due(6, "pass with no age again", 0, x.pass(100));
        x.setFile(1, 1000, 5, 2);
        Check.due(6, "setFile rotates nothing", 1, x.lines(1, NONE));
        Check.due(6, "pass over the age", 1, x.pass(1));
    }
}
