/** Promises 7 to 9: messages, seconds and rotations. */
public final class MessagesTest {
    private static final int NONE = LogSpooler.NONE;
    private static final int FOLDED = LogSpooler.FOLDED;
    private static final int LIMITED = LogSpooler.LIMITED;
    private static final int UNROUTED = LogSpooler.UNROUTED;
    private static final int ROUTED = LogSpooler.ROUTED;

    public static void main(String[] args) {
        messageBounds();
        folding();
        foldingBeyondTheFoldTime();
        repeatsAreToldByTheNext();
        repeatsGoWhereTheLastFits();
        repeatsOfTheMostSevere();
        limiting();
        dropsAreTold();
        tellingDropsTakesNoToken();
        dropsGoByTheirOwnFacility();
        limitedAfterToldRepeats();
        lineThatTurnsAFile();
        mostMessages();
        passBounds();
        passTellsRepeats();
        passTellsInOrder();
        passTellsByNumberNotByCount();
        passCountsRotations();
        passRotatesEveryFile();
        passGivesTokens();
        rotation();
        Check.end("MessagesTest");
    }

    private static void messageBounds() {
        LogSpooler x = Check.allTo(0);
        for (int sender : new int[] {-1, 6, Integer.MIN_VALUE, Integer.MAX_VALUE}) {
            Check.refusedAndUnchanged(7, "message of sender " + sender, Check.INDEX, x,
                    () -> x.message(sender, 0, 0, 0, 1));
            Check.refused(7, "message of sender " + sender + ", all wrong", Check.INDEX,
                    () -> x.message(sender, 8, 8, 100, 0));
        }
        int[][] bad = {{-1, 0, 0, 1}, {8, 0, 0, 1}, {0, -1, 0, 1}, {0, 8, 0, 1}, {0, 0, -1, 1}, {0, 0, 100, 1},
            {0, 0, 0, 0}, {0, 0, 0, 201}, {0, 0, 0, -5}, {Integer.MAX_VALUE, 0, 0, 1},
            {0, 0, Integer.MIN_VALUE, 1}, {0, 0, 0, Integer.MAX_VALUE}, {-1, -1, -1, -1}};
        for (int[] a : bad) {
            Check.refusedAndUnchanged(7, "message(0, " + a[0] + ", " + a[1] + ", " + a[2] + ", " + a[3] + ")",
                    Check.ARGUMENT, x, () -> x.message(0, a[0], a[1], a[2], a[3]));
        }
        Check.due(7, "message at the lowest", ROUTED, x.message(0, 0, 0, 0, 1));
        Check.due(7, "message at the highest", ROUTED, x.message(5, 7, 7, 99, 200));
        Check.dueLines(7, "[0 1]", x, 0, NONE);
        Check.due(7, "size", 201, x.size(0));
    }

    private static void folding() {
        LogSpooler x = Check.allTo(0);
        Check.due(7, "first message", ROUTED, x.message(2, 3, 4, 5, 6));
        Check.due(7, "the same", FOLDED, x.message(2, 3, 4, 5, 6));
        Check.due(7, "the same again", FOLDED, x.message(2, 3, 4, 5, 6));
        Check.due(7, "repeats", 2, x.repeats(2));
        Check.due(7, "tokens, not taken by repeats", 4, x.tokens(2));
        Check.due(7, "the same of another sender", ROUTED, x.message(3, 3, 4, 5, 6));
        Check.due(7, "repeats stay", 2, x.repeats(2));
        int[][] others = {{1, 4, 5, 6}, {3, 1, 5, 6}, {3, 4, 1, 6}, {3, 4, 5, 1}};
        for (int[] a : others) {
            LogSpooler y = Check.allTo(0);
            y.message(2, 3, 4, 5, 6);
            Check.due(7, "another one", ROUTED, y.message(2, a[0], a[1], a[2], a[3]));
            Check.due(7, "the former is not the last", ROUTED, y.message(2, 3, 4, 5, 6));
            Check.dueLines(7, "[0 1 2]", y, 0, NONE);
        }
        LogSpooler unrouted = new LogSpooler();
        Check.due(7, "message without targets", UNROUTED, unrouted.message(0, 0, 0, 0, 1));
        Check.due(7, "an unrouted one is a last one too", FOLDED, unrouted.message(0, 0, 0, 0, 1));
    }

    /** The fold time says when repeats are told, not for how long a message is the last one. */
    private static void foldingBeyondTheFoldTime() {
        LogSpooler x = Check.allTo(0);
        x.message(0, 1, 1, 1, 10);
        x.message(0, 1, 1, 1, 10);
        x.pass(10);
        x.setFold(5);
        Check.due(7, "a repeat 10 seconds after the first, with 5 to fold", FOLDED, x.message(0, 1, 1, 1, 10));
        Check.due(7, "repeats, until a second passes", 2, x.repeats(0));
        x.pass(1);
        Check.dueLines(8, "[0 10002]", x, 0, NONE);
        x.pass(100);
        Check.due(7, "a repeat long after the last telling", FOLDED, x.message(0, 1, 1, 1, 10));
    }

    private static void repeatsAreToldByTheNext() {
        LogSpooler x = Check.allTo(3);
        x.message(4, 1, 1, 1, 10);
        x.message(4, 1, 1, 1, 10);
        x.message(4, 1, 1, 1, 10);
        x.message(4, 1, 1, 2, 10);
        Check.dueLines(7, "[0 50002 3]", x, 3, NONE);
        Check.due(7, "size with a line of repeats", 10 + 15 + 10, x.size(3));
        Check.due(7, "repeats that are told", 0, x.repeats(4));
        Check.due(7, "tokens, not taken by the telling", 3, x.tokens(4));
        x.message(4, 1, 1, 3, 10);
        Check.dueLines(7, "[0 50002 3 4]", x, 3, NONE);
    }

    private static void repeatsGoWhereTheLastFits() {
        LogSpooler x = new LogSpooler();
        x.setRule(0, 2, 3, 1, 0);
        x.setRule(1, 4, 7, NONE, 1);
        x.message(1, 1, 3, 0, 10);
        x.message(1, 1, 3, 0, 10);
        x.message(1, 2, 5, 0, 10);
        Check.dueLines(7, "[0 20001]", x, 0, NONE);
        Check.dueLines(7, "[2]", x, 1, NONE);
        x.message(1, 2, 5, 0, 10);
        x.removeRule(1);
        x.message(1, 1, 3, 0, 10);
        Check.dueLines(7, "[2]", x, 1, NONE);
        Check.due(7, "repeats without a target are told to none", 0, x.repeats(1));
        Check.dueLines(7, "[0 20001 4]", x, 0, NONE);
    }

    private static void repeatsOfTheMostSevere() {
        LogSpooler x = new LogSpooler();
        x.setRule(0, 1, 0, NONE, 0);
        x.message(2, 0, 0, 0, 10);
        x.message(2, 0, 0, 0, 10);
        x.message(2, 7, 7, 0, 10);
        Check.dueLines(7, "[0 30001]", x, 0, NONE);
    }

    private static void limiting() {
        LogSpooler x = Check.allTo(0);
        for (int text = 0; text < 5; text++) {
            Check.due(7, "message with a token", ROUTED, x.message(0, 0, 0, text, 1));
            Check.due(7, "tokens left", 4 - text, x.tokens(0));
        }
        Check.due(7, "message without a token", LIMITED, x.message(0, 0, 0, 9, 1));
        Check.due(7, "drops", 1, x.drops(0));
        Check.due(7, "the same again, as a limited one is no last one", LIMITED, x.message(0, 0, 0, 9, 1));
        Check.due(7, "drops", 2, x.drops(0));
        Check.due(7, "a repeat of the last one", FOLDED, x.message(0, 0, 0, 4, 1));
        Check.due(7, "drops, not by a repeat", 2, x.drops(0));
        Check.due(7, "drops of another sender", 0, x.drops(1));
        Check.due(7, "tokens of another sender", 5, x.tokens(1));
        Check.due(7, "lines", 5, x.lines(0, NONE));
        LogSpooler unrouted = new LogSpooler();
        for (int text = 0; text < 5; text++) {
            unrouted.message(0, 0, 0, text, 1);
        }
        Check.due(7, "unrouted ones take tokens too", LIMITED, unrouted.message(0, 0, 0, 5, 1));
    }

    private static void dropsAreTold() {
        LogSpooler x = Check.allTo(0);
        x.setRate(1, 10);
        x.message(3, 0, 0, 0, 1);
        x.message(3, 0, 0, 1, 1);
        x.message(3, 0, 0, 2, 1);
        x.message(3, 0, 0, 3, 1);
        x.pass(10);
        Check.due(7, "seconds do not tell drops", 3, x.drops(3));
        x.message(3, 0, 0, 0, 1);
        Check.due(7, "nor does a repeat", 3, x.drops(3));
        Check.due(7, "message with a token", ROUTED, x.message(3, 0, 0, 5, 7));
        Check.dueLines(7, "[0 40001 400003 5]", x, 0, NONE);
        Check.due(7, "drops that are told", 0, x.drops(3));
        Check.due(7, "tokens, one taken", 0, x.tokens(3));
        Check.due(7, "size with a line of drops", 1 + 15 + 20 + 7, x.size(0));
        x.pass(10);
        x.message(3, 0, 0, 6, 1);
        Check.dueLines(7, "[0 40001 400003 5 6]", x, 0, NONE);
    }

    private static void tellingDropsTakesNoToken() {
        LogSpooler x = Check.allTo(0);
        x.setRate(1, 1);
        x.message(3, 0, 0, 0, 1);
        x.message(3, 0, 0, 1, 1);
        x.setRate(5, 1);
        x.pass(3);
        x.message(3, 0, 0, 2, 1);
        Check.dueLines(7, "[0 400001 2]", x, 0, NONE);
        Check.due(7, "tokens, one of three taken by the message alone", 2, x.tokens(3));
    }

    private static void dropsGoByTheirOwnFacility() {
        LogSpooler x = new LogSpooler();
        x.setRate(1, 1);
        x.setRule(0, 32, 4, 2, 1);
        x.setRule(1, 32, 3, NONE, 2);
        x.setRule(2, 255 - 32, 7, NONE, 3);
        x.setRule(3, 32, 7, 0, 0);
        x.message(2, 0, 7, 0, 9);
        x.message(2, 0, 7, 1, 9);
        x.pass(1);
        x.message(2, 0, 7, 2, 9);
        Check.dueLines(7, "[300001]", x, 1, NONE);
        Check.due(7, "size", 20, x.size(1));
        Check.dueLines(7, "[]", x, 2, NONE);
        Check.dueLines(7, "[0 2]", x, 3, NONE);
        Check.dueLines(7, "[]", x, 0, NONE);
        Check.due(7, "targets of the message alone", 8, x.targetsOf(2));
    }

    private static void limitedAfterToldRepeats() {
        LogSpooler x = Check.allTo(0);
        x.setRate(1, 1);
        x.message(0, 1, 1, 1, 1);
        x.message(0, 1, 1, 1, 1);
        Check.due(7, "another one without a token", LIMITED, x.message(0, 1, 1, 2, 1));
        Check.due(7, "repeats are told all the same", 0, x.repeats(0));
        Check.dueLines(7, "[0 10001]", x, 0, NONE);
        Check.due(7, "the last one stays the last", FOLDED, x.message(0, 1, 1, 1, 1));
        x.pass(1);
        x.message(0, 1, 1, 2, 1);
        Check.dueLines(7, "[0 10001 10001 100001 4]", x, 0, NONE);
    }

    private static void lineThatTurnsAFile() {
        LogSpooler x = Check.allTo(0);
        x.setFile(0, 200, 0, 5);
        x.message(0, 0, 0, 0, 190);
        x.message(0, 0, 0, 0, 190);
        x.message(0, 0, 0, 1, 185);
        Check.dueLines(7, "[0]", x, 0, 0);
        Check.dueLines(7, "[10001 2]", x, 0, NONE);
        Check.due(7, "size, full", 200, x.size(0));
        x.message(0, 0, 0, 2, 200);
        Check.due(7, "generations", 2, x.generations(0));
        Check.dueLines(7, "[3]", x, 0, NONE);
        Check.dueLines(7, "[10001 2]", x, 0, 0);
        Check.dueLines(7, "[0]", x, 0, 1);
        Check.due(7, "size", 200, x.size(0));
    }

    private static void mostMessages() {
        LogSpooler x = Check.allTo(4);
        for (int i = 0; i < 400; i++) {
            x.message(i % 6, 0, 0, i % 100, 1);
        }
        Check.due(7, "messages", 400, x.messages());
        Check.refused(7, "message 401", Check.STATE, () -> x.message(0, 0, 0, 0, 1));
        Check.refused(7, "message 401, a repeat", Check.STATE, () -> x.message(0, 0, 0, 24, 1));
        Check.refused(7, "message 401 with a wrong length", Check.ARGUMENT, () -> x.message(0, 0, 0, 0, 0));
        Check.refused(7, "message 401 of no sender", Check.INDEX, () -> x.message(6, 0, 0, 0, 0));
        Check.due(7, "messages", 400, x.messages());
        Check.due(7, "repeats, as the refused one is none", 0, x.repeats(0));
    }

    private static void passBounds() {
        LogSpooler x = new LogSpooler();
        for (int bad : new int[] {0, 101, -1, Integer.MIN_VALUE, Integer.MAX_VALUE}) {
            Check.refusedAndUnchanged(8, "pass(" + bad + ")", Check.ARGUMENT, x, () -> x.pass(bad));
        }
        x.pass(1);
        Check.due(8, "time", 1, x.time());
        x.pass(100);
        Check.due(8, "time", 101, x.time());
    }

    private static void passTellsRepeats() {
        LogSpooler x = Check.allTo(0);
        x.message(0, 1, 1, 1, 10);
        x.pass(7);
        x.message(0, 1, 1, 1, 10);
        x.pass(20);
        x.message(0, 1, 1, 1, 10);
        x.pass(9);
        Check.due(8, "repeats 29 seconds after the first", 2, x.repeats(0));
        x.pass(1);
        Check.due(8, "repeats 30 seconds after the first", 0, x.repeats(0));
        Check.dueLines(8, "[0 10002]", x, 0, NONE);
        Check.due(8, "size", 25, x.size(0));
        Check.due(8, "the last one is still the last", FOLDED, x.message(0, 1, 1, 1, 10));
        x.pass(29);
        Check.due(8, "a new count has a first one of its own", 1, x.repeats(0));
        x.pass(1);
        Check.dueLines(8, "[0 10002 10001]", x, 0, NONE);
        x.pass(100);
        Check.dueLines(8, "[0 10002 10001]", x, 0, NONE);
    }

    private static void passTellsInOrder() {
        LogSpooler x = Check.allTo(0);
        x.setFold(100);
        int[] order = {4, 1, 5, 0};
        for (int sender : order) {
            x.message(sender, 0, 0, 0, 1);
            x.message(sender, 0, 0, 0, 1);
            x.pass(1);
        }
        x.message(3, 0, 0, 0, 1);
        x.message(3, 0, 0, 0, 1);
        x.message(2, 0, 0, 0, 1);
        x.message(2, 0, 0, 0, 1);
        x.setFold(1);
        x.pass(1);
        Check.dueLines(8, "[0 2 4 6 8 10 50001 20001 60001 10001 30001 40001]", x, 0, NONE);
    }

    private static void passTellsByNumberNotByCount() {
        int[][] counts = {{3, 2, 1}, {1, 2, 3}, {2, 3, 1}};
        for (int[] count : counts) {
            LogSpooler x = Check.allTo(0);
            x.setFold(1);
            int[] order = {4, 2, 1};
            for (int i = 0; i < order.length; i++) {
                for (int come = 0; come <= count[2 - i]; come++) {
                    x.message(order[i], 0, 0, 0, 1);
                }
            }
            x.pass(1);
            Check.due(8, "lines", 6, x.lines(0, NONE));
            Check.due(8, "told first, sender 1", 20000 + count[0], x.line(0, NONE, 3));
            Check.due(8, "told second, sender 2", 30000 + count[1], x.line(0, NONE, 4));
            Check.due(8, "told third, sender 4", 50000 + count[2], x.line(0, NONE, 5));
        }
    }

    private static void passCountsRotations() {
        LogSpooler x = new LogSpooler();
        x.setRule(0, 255, 7, NONE, 0);
        x.setRule(1, 255, 7, NONE, 1);
        x.setRule(2, 255, 7, 0, 3);
        x.setFile(0, 200, 0, 5);
        x.setFile(1, 200, 5, 5);
        x.setFile(3, 1000, 9, 0);
        x.setFold(2);
        x.message(0, 0, 0, 0, 195);
        x.message(0, 0, 0, 0, 195);
        x.rotate(0);
        x.message(1, 0, 0, 0, 190);
        Check.due(8, "pass without a rotation", 0, x.pass(1));
        Check.due(8, "pass with two by size", 2, x.pass(1));
        Check.dueLines(8, "[10001]", x, 0, NONE);
        Check.due(8, "generations of file 1 after two rotations by size", 2, x.generations(1));
        Check.due(8, "file 1's first line came at time 2: pass to 6", 0, x.pass(4));
        Check.due(8, "pass to 7", 1, x.pass(1));
        Check.due(8, "size of file 1", 0, x.size(1));
        Check.due(8, "file 3's first line came at time 0: pass to 9", 1, x.pass(2));
        Check.due(8, "lines of file 3", 0, x.lines(3, NONE));
        Check.due(8, "generations of file 3, none kept", 0, x.generations(3));
        Check.due(8, "empty files are not rotated", 0, x.pass(100));
        x.message(2, 0, 0, 0, 5);
        x.message(2, 0, 0, 0, 5);
        Check.due(8, "pass to the age of two lines, one of them told in between", 1, x.pass(5));
        Check.dueLines(8, "[3 30001]", x, 1, 0);
        x.message(2, 0, 0, 1, 5);
        x.pass(4);
        x.setFold(1);
        x.message(2, 0, 0, 1, 5);
        Check.due(8, "told in the second of the age", 1, x.pass(1));
        Check.dueLines(8, "[5 30001]", x, 1, 0);
    }

    private static void passRotatesEveryFile() {
        LogSpooler x = new LogSpooler();
        for (int file = 0; file < 4; file++) {
            x.setRule(file, 255, 7, NONE, file);
            x.setFile(file, 1000, 3 + file, 2);
        }
        x.message(0, 0, 0, 0, 10);
        Check.due(8, "pass before each age", 0, x.pass(2));
        for (int file = 0; file < 4; file++) {
            Check.due(8, "lines of file " + file + " before its age", 1, x.lines(file, NONE));
            Check.due(8, "pass to its age", 1, x.pass(1));
            Check.due(8, "lines of file " + file + " at its age", 0, x.lines(file, NONE));
            Check.dueLines(8, "[0]", x, file, 0);
        }
        x.message(0, 0, 0, 1, 10);
        Check.due(8, "pass over all four ages", 4, x.pass(100));
    }

    private static void passGivesTokens() {
        LogSpooler x = Check.allTo(0);
        for (int text = 0; text < 5; text++) {
            x.message(0, 0, 0, text, 1);
        }
        x.pass(9);
        Check.due(8, "tokens at time 9", 0, x.tokens(0));
        x.pass(1);
        Check.due(8, "tokens at time 10", 1, x.tokens(0));
        x.pass(25);
        Check.due(8, "tokens at time 35", 3, x.tokens(0));
        x.pass(100);
        Check.due(8, "tokens at time 135", 5, x.tokens(0));
    }

    private static void rotation() {
        LogSpooler x = Check.allTo(2);
        for (int bad : new int[] {-1, 4, Integer.MIN_VALUE, Integer.MAX_VALUE}) {
            Check.refused(9, "rotate(" + bad + ")", Check.INDEX, () -> x.rotate(bad));
        }
        for (int file = 0; file < 4; file++) {
            int empty = file;
            Check.refusedAndUnchanged(9, "rotate of an empty file", Check.STATE, x, () -> x.rotate(empty));
        }
        x.message(0, 0, 0, 0, 10);
        x.message(0, 0, 0, 1, 10);
        Check.due(9, "rotate", 1, x.rotate(2));
        Check.due(9, "size", 0, x.size(2));
        Check.dueLines(9, "[]", x, 2, NONE);
        Check.dueLines(9, "[0 1]", x, 2, 0);
        Check.refusedAndUnchanged(9, "rotate again", Check.STATE, x, () -> x.rotate(2));
        x.message(0, 0, 0, 2, 10);
        Check.due(9, "rotate", 2, x.rotate(2));
        Check.dueLines(9, "[2]", x, 2, 0);
        Check.dueLines(9, "[0 1]", x, 2, 1);
        x.message(0, 0, 0, 3, 10);
        Check.due(9, "rotate with 2 kept", 2, x.rotate(2));
        Check.dueLines(9, "[3]", x, 2, 0);
        Check.dueLines(9, "[2]", x, 2, 1);
        x.setFile(2, 1000, 0, 0);
        x.message(0, 0, 0, 4, 10);
        Check.due(9, "rotate with none kept", 0, x.rotate(2));
        Check.due(9, "lines", 0, x.lines(2, NONE));
        ageAfterRotation();
    }

    private static void ageAfterRotation() {
        LogSpooler x = Check.allTo(2);
        x.setFile(2, 1000, 10, 2);
        x.message(0, 0, 0, 0, 10);
        x.pass(6);
        x.message(0, 0, 0, 1, 10);
        x.rotate(2);
        x.message(0, 0, 0, 2, 10);
        Check.due(9, "the age counts from the first line since", 0, x.pass(9));
        Check.due(9, "and is reached then", 1, x.pass(1));
    }
}
