/**
 * Promises 14 to 21 and 26 to 29 at their bounds: a method for each sentence that names a bound,
 * and its remark says the promise, the sentence and the cases.
 */
public final class StateBoundaryTest {
    private static final int NONE = LogSpooler.NONE;
    private static final int LEAST = Integer.MIN_VALUE;
    private static final int MOST = Integer.MAX_VALUE;

    public static void main(String[] args) {
        promise14From0();
        promise15Sender();
        promise15AtMostTheBurst();
        promise16Sender();
        promise16NotTold();
        promise16AsManyAsCanBe();
        promise17Sender();
        promise17NotTold();
        promise17AsManyAsCanBe();
        promise18File();
        promise18WithoutGenerations();
        promise18SmallestAndLargest();
        promise19File();
        promise19Generation();
        promise19NoGeneration();
        promise19FileItself();
        promise19NewestGeneration();
        promise20File();
        promise20Generation();
        promise20Place();
        promise20PlaceInAGeneration();
        promise20EmptyFile();
        promise20NumbersOfLines();
        promise20LongestFile();
        promise21File();
        promise21HowMany();
        promise26HowManyHaveCome();
        promise27Message();
        promise27EveryFate();
        promise28Fate();
        promise28ByTheLedger();
        promise29Message();
        promise29EveryTarget();
        promise29WithoutTargets();
        promise29LostThere();
        promise29AsItWent();
        last512thCall();
        Check.end("StateBoundaryTest");
    }

    // ---- promises 14 to 17

    /** Promise 14 with "Time is counted in seconds, from 0": 0, 1 and 101, and no other call takes time. */
    private static void promise14From0() {
        LogSpooler x = new LogSpooler();
        Check.due(14, "time of a new object", 0, x.time());
        x.setRate(1, 1);
        x.setFold(1);
        x.setRule(0, 255, 7, NONE, 0);
        x.setFile(0, 200, 1, 1);
        x.message(0, 0, 0, 0, 1);
        x.rotate(0);
        x.connect();
        Check.due(14, "time after other calls", 0, x.time());
        x.pass(1);
        Check.due(14, "time after pass(1)", 1, x.time());
        x.pass(100);
        Check.due(14, "time after pass(100)", 101, x.time());
    }

    /** Promise 15, "sender: 0 to 5": -1 and 6 are no senders, nor are the ends of int; 0 and 5 are. */
    private static void promise15Sender() {
        LogSpooler x = new LogSpooler();
        for (int bad : new int[] {-1, 6, LEAST, MOST}) {
            Check.refusedAndUnchanged(15, "tokens(" + bad + ")", Check.INDEX, x, () -> x.tokens(bad));
        }
        x.message(0, 0, 0, 0, 1);
        Check.due(15, "tokens(0)", 4, x.tokens(0));
        Check.due(15, "tokens(5)", 5, x.tokens(5));
    }

    /** Promise 15 with "as many as the burst at first and at most": 0, 1, and the bursts 5 and 50. */
    private static void promise15AtMostTheBurst() {
        LogSpooler x = new LogSpooler();
        for (int left = 4; left >= 0; left--) {
            x.message(3, 0, 0, left, 1);
            Check.due(15, "tokens as they are taken", left, x.tokens(3));
        }
        x.pass(10);
        Check.due(15, "tokens at time 10", 1, x.tokens(3));
        x.pass(50);
        Check.due(15, "tokens at the burst 5", 5, x.tokens(3));
        Check.withTokens(x);
        Check.due(15, "tokens at the burst 50", 50, x.tokens(3));
    }

    /** Promise 16, "sender: 0 to 5": -1 and 6 are no senders, nor are the ends of int; 0 and 5 are. */
    private static void promise16Sender() {
        LogSpooler x = new LogSpooler();
        for (int bad : new int[] {-1, 6, LEAST, MOST}) {
            Check.refusedAndUnchanged(16, "repeats(" + bad + ")", Check.INDEX, x, () -> x.repeats(bad));
        }
        x.message(5, 0, 0, 0, 1);
        x.message(5, 0, 0, 0, 1);
        Check.due(16, "repeats(0)", 0, x.repeats(0));
        Check.due(16, "repeats(5)", 1, x.repeats(5));
    }

    /**
     * Promise 16, repeats "that have not been told": 0, 1, 2, and 0 when they are told by the next
     * message or by seconds.
     */
    private static void promise16NotTold() {
        LogSpooler x = new LogSpooler();
        for (int repeats = 0; repeats < 3; repeats++) {
            x.message(1, 0, 0, 0, 1);
            Check.due(16, "repeats", repeats, x.repeats(1));
        }
        x.message(1, 0, 0, 1, 1);
        Check.due(16, "repeats told by the next message", 0, x.repeats(1));
        x.message(1, 0, 0, 1, 1);
        Check.due(16, "repeats of the next message", 1, x.repeats(1));
        x.pass(30);
        Check.due(16, "repeats told by seconds", 0, x.repeats(1));
    }

    /** Promise 16, as many repeats as there can be: 399, and the line that tells them. */
    private static void promise16AsManyAsCanBe() {
        LogSpooler x = Check.allTo(0);
        for (int i = 0; i < 400; i++) {
            x.message(5, 7, 7, 99, 200);
        }
        Check.due(16, "repeats", 399, x.repeats(5));
        x.pass(30);
        Check.due(16, "repeats that are told", 0, x.repeats(5));
        Check.dueLines(20, "[0 60399]", x, 0, NONE);
    }

    /** Promise 17, "sender: 0 to 5": -1 and 6 are no senders, nor are the ends of int; 0 and 5 are. */
    private static void promise17Sender() {
        LogSpooler x = new LogSpooler();
        for (int bad : new int[] {-1, 6, LEAST, MOST}) {
            Check.refusedAndUnchanged(17, "drops(" + bad + ")", Check.INDEX, x, () -> x.drops(bad));
        }
        for (int text = 0; text < 6; text++) {
            x.message(5, 0, 0, text, 1);
        }
        Check.due(17, "drops(0)", 0, x.drops(0));
        Check.due(17, "drops(5)", 1, x.drops(5));
    }

    /** Promise 17, drops "that have not been told": 0 with the last token, 1, 2, and 0 when they are told. */
    private static void promise17NotTold() {
        LogSpooler x = new LogSpooler();
        x.setRate(1, 1);
        for (int drops = 0; drops < 3; drops++) {
            x.message(1, 0, 0, drops, 1);
            Check.due(17, "drops", drops, x.drops(1));
        }
        x.pass(1);
        Check.due(17, "drops, not told by seconds", 2, x.drops(1));
        x.message(1, 0, 0, 9, 1);
        Check.due(17, "drops that are told", 0, x.drops(1));
    }

    /** Promise 17, as many drops as can be told: 398, and the line that tells them. */
    private static void promise17AsManyAsCanBe() {
        LogSpooler x = Check.allTo(0);
        x.setRate(1, 60);
        x.message(5, 0, 0, 0, 1);
        for (int i = 0; i < 398; i++) {
            x.message(5, 0, 0, 1, 1);
        }
        Check.due(17, "drops", 398, x.drops(5));
        x.pass(60);
        x.message(5, 0, 0, 2, 1);
        Check.due(17, "drops that are told", 0, x.drops(5));
        Check.dueLines(20, "[0 600398 399]", x, 0, NONE);
    }

    // ---- promises 18 and 19

    /**
     * An object whose files 0 and 3 have generations of 3 lines and of 2 lines, and 1 line; each
     * line is 2 long.
     */
    private static LogSpooler withGenerations() {
        LogSpooler x = Check.withTokens(Check.allTo(0));
        x.setRule(1, 255, 7, NONE, 3);
        for (int lines = 3; lines > 1; lines--) {
            Check.fill(x, lines, 2);
            x.rotate(0);
            x.rotate(3);
        }
        Check.fill(x, 1, 2);
        return x;
    }

    /** Promise 18, "file: 0 to 3": -1 and 4 are no files, nor are the ends of int; 0 and 3 are. */
    private static void promise18File() {
        LogSpooler x = withGenerations();
        for (int bad : new int[] {-1, LogSpooler.FORWARD, LEAST, MOST}) {
            Check.refusedAndUnchanged(18, "size(" + bad + ")", Check.INDEX, x, () -> x.size(bad));
        }
        Check.due(18, "size(0)", 2, x.size(0));
        Check.due(18, "size(1)", 0, x.size(1));
        Check.due(18, "size(3)", 2, x.size(3));
    }

    /**
     * Promise 18, "the sum of the lengths of its lines, without generations": of none, 1 and 2
     * lines, and 0 with generations alone.
     */
    private static void promise18WithoutGenerations() {
        LogSpooler x = withGenerations();
        Check.due(18, "size of 1 line", 2, x.size(0));
        Check.fill(x, 1, 7);
        Check.due(18, "size of 2 lines", 9, x.size(0));
        x.rotate(0);
        Check.due(18, "size of generations alone", 0, x.size(0));
    }

    /** Promise 18, the smallest and the largest size: 1 and 5000. */
    private static void promise18SmallestAndLargest() {
        LogSpooler x = Check.withTokens(Check.allTo(0));
        x.setFile(0, 5000, 0, 0);
        Check.fill(x, 1, 1);
        Check.due(18, "smallest size", 1, x.size(0));
        x.rotate(0);
        Check.fill(x, 25, 200);
        Check.due(18, "largest size", 5000, x.size(0));
    }

    /** Promise 19, "file: 0 to 3": -1 and 4 are no files, nor are the ends of int; 0 and 3 are. */
    private static void promise19File() {
        LogSpooler x = withGenerations();
        for (int bad : new int[] {-1, LogSpooler.FORWARD, LEAST, MOST}) {
            Check.refusedAndUnchanged(19, "lines(" + bad + ", NONE)", Check.INDEX, x, () -> x.lines(bad, NONE));
            Check.refusedAndUnchanged(19, "lines(" + bad + ", 0)", Check.INDEX, x, () -> x.lines(bad, 0));
        }
        Check.due(19, "lines(0, NONE)", 1, x.lines(0, NONE));
        Check.due(19, "lines(3, NONE)", 1, x.lines(3, NONE));
        Check.due(19, "lines(2, NONE)", 0, x.lines(2, NONE));
    }

    /**
     * Promise 19, no "such ... generation": -2, and 1 more than the oldest, and the ends of int;
     * the oldest one is.
     */
    private static void promise19Generation() {
        LogSpooler x = withGenerations();
        for (int bad : new int[] {-2, 2, 3, 5, 6, LEAST, MOST}) {
            Check.refusedAndUnchanged(19, "lines(0, " + bad + ")", Check.INDEX, x, () -> x.lines(0, bad));
        }
        Check.due(19, "lines of the oldest generation", 3, x.lines(0, 1));
    }

    /**
     * Promise 19, a file without generations: 0 is none of it, NONE is the file; also when it has
     * lines, and when none is kept.
     */
    private static void promise19NoGeneration() {
        LogSpooler x = Check.allTo(0);
        Check.refused(19, "lines(0, 0) of an empty file", Check.INDEX, () -> x.lines(0, 0));
        x.message(0, 0, 0, 0, 1);
        Check.refused(19, "lines(0, 0) of a file with a line", Check.INDEX, () -> x.lines(0, 0));
        x.setFile(0, 1000, 0, 0);
        x.rotate(0);
        Check.refused(19, "lines(0, 0) with none kept", Check.INDEX, () -> x.lines(0, 0));
    }

    /** Promise 19, "NONE for the file itself": 0 lines, 1, 2, and 0 after a rotation. */
    private static void promise19FileItself() {
        LogSpooler x = Check.withTokens(Check.allTo(0));
        for (int lines = 0; lines < 3; lines++) {
            Check.due(19, "lines of the file", lines, x.lines(0, NONE));
            Check.fill(x, 1, 1);
        }
        x.rotate(0);
        Check.due(19, "lines of the file, rotated", 0, x.lines(0, NONE));
    }

    /** Promise 19, "0 for the newest generation": its number grows with each rotation, to the fifth. */
    private static void promise19NewestGeneration() {
        LogSpooler x = Check.withTokens(Check.allTo(0));
        x.setFile(0, 1000, 0, 5);
        for (int lines = 1; lines <= 6; lines++) {
            Check.fill(x, lines, 1);
            x.rotate(0);
            for (int generation = 0; generation < Math.min(lines, 5); generation++) {
                Check.due(19, "lines of generation " + generation, lines - generation, x.lines(0, generation));
            }
        }
    }

    // ---- promises 20 and 21

    /** Promise 20, "file: 0 to 3": -1 and 4 are no files, nor are the ends of int; 0 and 3 are. */
    private static void promise20File() {
        LogSpooler x = withGenerations();
        for (int bad : new int[] {-1, LogSpooler.FORWARD, LEAST, MOST}) {
            Check.refusedAndUnchanged(20, "line(" + bad + ", NONE, 0)", Check.INDEX, x, () -> x.line(bad, NONE, 0));
        }
        Check.due(20, "line(0, NONE, 0)", 5, x.line(0, NONE, 0));
        Check.due(20, "line(3, NONE, 0)", 5, x.line(3, NONE, 0));
    }

    /**
     * Promise 20, no "such ... generation": -2, and 1 more than the oldest, and the ends of int;
     * the oldest one is.
     */
    private static void promise20Generation() {
        LogSpooler x = withGenerations();
        for (int bad : new int[] {-2, 2, 3, 5, 6, LEAST, MOST}) {
            Check.refusedAndUnchanged(20, "line(0, " + bad + ", 0)", Check.INDEX, x, () -> x.line(0, bad, 0));
        }
        Check.due(20, "line of the newest generation", 3, x.line(0, 0, 0));
        Check.due(20, "line of the oldest generation", 0, x.line(0, 1, 0));
    }

    /**
     * Promise 20, "place: 0 for the first line", no such "place": -1, and 1 more than the last, and
     * the ends of int.
     */
    private static void promise20Place() {
        LogSpooler x = withGenerations();
        Check.fill(x, 1, 2);
        for (int bad : new int[] {-1, 2, 3, 399, 400, LEAST, MOST}) {
            Check.refusedAndUnchanged(20, "line(0, NONE, " + bad + ")", Check.INDEX, x, () -> x.line(0, NONE, bad));
        }
        Check.due(20, "first line", 5, x.line(0, NONE, 0));
        Check.due(20, "last line", 6, x.line(0, NONE, 1));
    }

    /**
     * Promise 20, places in generations: the first and the last are, those before and after are
     * none of the next generation's.
     */
    private static void promise20PlaceInAGeneration() {
        LogSpooler x = withGenerations();
        int[] lines = {2, 3};
        int[] first = {3, 0};
        for (int generation = 0; generation < 2; generation++) {
            int asked = generation;
            for (int bad : new int[] {-1, lines[generation], LEAST, MOST}) {
                Check.refusedAndUnchanged(20, "line(0, " + generation + ", " + bad + ")", Check.INDEX, x,
                        () -> x.line(0, asked, bad));
            }
            Check.due(20, "first line of generation " + generation, first[generation], x.line(0, generation, 0));
            Check.due(20, "last line of generation " + generation, first[generation] + lines[generation] - 1,
                    x.line(0, generation, lines[generation] - 1));
        }
    }

    /** Promise 20, an empty file: place 0 is none, in a new file and in one just rotated. */
    private static void promise20EmptyFile() {
        LogSpooler x = withGenerations();
        Check.refusedAndUnchanged(20, "line(1, NONE, 0) of a new file", Check.INDEX, x, () -> x.line(1, NONE, 0));
        x.rotate(0);
        Check.refusedAndUnchanged(20, "line(0, NONE, 0) of a rotated file", Check.INDEX, x, () -> x.line(0, NONE, 0));
    }

    /**
     * Promise 20 with "A line is told as a number": of a message, of 1 repeat and 1 drop, of the
     * first and the last sender.
     */
    private static void promise20NumbersOfLines() {
        for (int sender = 0; sender < 6; sender += 5) {
            LogSpooler x = Check.allTo(0);
            x.setRate(1, 1);
            x.message(sender, 0, 0, 0, 1);
            x.message(sender, 0, 0, 0, 1);
            x.message(sender, 0, 0, 1, 1);
            x.pass(1);
            x.message(sender, 0, 0, 2, 1);
            Check.due(20, "a message", 0, x.line(0, NONE, 0));
            Check.due(20, "repeats of sender " + sender, 10000 * (1 + sender) + 1, x.line(0, NONE, 1));
            Check.due(20, "drops of sender " + sender, 100000 * (1 + sender) + 1, x.line(0, NONE, 2));
            Check.due(20, "a later message", 3, x.line(0, NONE, 3));
        }
    }

    /**
     * Promise 20, all 400 messages of an object in one file: each line is at its place, and there
     * is no 401st.
     */
    private static void promise20LongestFile() {
        LogSpooler x = Check.withTokens(Check.allTo(3));
        for (int i = 0; i < 400; i++) {
            x.message(i % 6, 0, 0, i % 100, 1);
            if (i % 6 == 5) {
                x.pass(1);
            }
        }
        Check.due(19, "lines of the longest file", 400, x.lines(3, NONE));
        for (int place = 0; place < 400; place++) {
            Check.due(20, "line at place " + place, place, x.line(3, NONE, place));
        }
        Check.refused(20, "line at place 400", Check.INDEX, () -> x.line(3, NONE, 400));
    }

    /** Promise 21, "file: 0 to 3": -1 and 4 are no files, nor are the ends of int; 0 and 3 are. */
    private static void promise21File() {
        LogSpooler x = withGenerations();
        for (int bad : new int[] {-1, LogSpooler.FORWARD, LEAST, MOST}) {
            Check.refusedAndUnchanged(21, "generations(" + bad + ")", Check.INDEX, x, () -> x.generations(bad));
        }
        Check.due(21, "generations(0)", 2, x.generations(0));
        Check.due(21, "generations(1)", 0, x.generations(1));
        Check.due(21, "generations(3)", 2, x.generations(3));
    }

    /** Promise 21, "how many generations a file has": 0 to 5, and no more; each way to rotate makes one. */
    private static void promise21HowMany() {
        LogSpooler x = Check.withTokens(Check.allTo(0));
        x.setFile(0, 200, 1, 5);
        Check.due(21, "generations at first", 0, x.generations(0));
        Check.fill(x, 1, 200);
        x.rotate(0);
        Check.due(21, "generations after rotate", 1, x.generations(0));
        Check.fill(x, 1, 200);
        x.pass(1);
        Check.due(21, "generations after a rotation by age", 2, x.generations(0));
        Check.fill(x, 2, 200);
        Check.due(21, "generations after a rotation by size", 3, x.generations(0));
        for (int due : new int[] {4, 5, 5, 5}) {
            x.rotate(0);
            Check.due(21, "generations after one more", due, x.generations(0));
            Check.fill(x, 1, 1);
        }
        x.setFile(0, 200, 1, 4);
        Check.due(21, "generations with 4 kept", 4, x.generations(0));
    }

    // ---- promises 26 to 29

    /**
     * Promise 26, "how many messages have come": 0, 1 of each fate, none that was refused, no told
     * line, and 400.
     */
    private static void promise26HowManyHaveCome() {
        LogSpooler x = new LogSpooler();
        x.setRate(1, 60);
        Check.due(26, "messages at first", 0, x.messages());
        x.message(0, 0, 0, 0, 1);
        Check.due(26, "messages with an unrouted one", 1, x.messages());
        x.message(0, 0, 0, 0, 1);
        Check.due(26, "messages with a folded one", 2, x.messages());
        x.message(0, 0, 0, 1, 1);
        Check.due(26, "messages with a limited one", 3, x.messages());
        x.setRule(0, 255, 7, NONE, 0);
        x.message(1, 0, 0, 0, 1);
        Check.due(26, "messages with a routed one", 4, x.messages());
        Check.refused(26, "message of length 0", Check.ARGUMENT, () -> x.message(0, 0, 0, 0, 0));
        x.message(1, 0, 0, 0, 1);
        x.pass(60);
        Check.due(26, "lines, one of them told", 2, x.lines(0, NONE));
        Check.due(26, "messages with a told line", 5, x.messages());
        Check.fill(x, 395, 1);
        Check.due(26, "messages at most", 400, x.messages());
        Check.refused(26, "message 401", Check.STATE, () -> x.message(0, 0, 0, 0, 1));
        Check.due(26, "messages after a refused one", 400, x.messages());
    }

    /**
     * Promise 27, no "such ... message": -1, as many as have come, and the ends of int; with 0, 1
     * and 400 of them.
     */
    private static void promise27Message() {
        LogSpooler x = Check.allTo(0);
        for (int come : new int[] {0, 1, 400}) {
            Check.fill(x, come - x.messages(), 1);
            for (int bad : new int[] {-1, come, come + 1, LEAST, MOST}) {
                Check.refused(27, "fateOf(" + bad + ") of " + come, Check.INDEX, () -> x.fateOf(bad));
            }
            if (come > 0) {
                Check.due(27, "fateOf the first of " + come, LogSpooler.ROUTED, x.fateOf(0));
            }
        }
        Check.due(27, "fateOf the last of 400", LogSpooler.LIMITED, x.fateOf(399));
    }

    /** Promise 27, "FOLDED to ROUTED": each of them, as message answered it. */
    private static void promise27EveryFate() {
        LogSpooler x = new LogSpooler();
        x.setRate(1, 60);
        x.setRule(0, 255, 7, 1, 0);
        int[] fates = {x.message(0, 0, 0, 0, 1), x.message(0, 0, 0, 0, 1), x.message(0, 0, 0, 1, 1),
            x.message(1, 0, 0, 0, 1)};
        int[] due = {LogSpooler.UNROUTED, LogSpooler.FOLDED, LogSpooler.LIMITED, LogSpooler.ROUTED};
        for (int message = 0; message < due.length; message++) {
            Check.due(27, "fate of message " + message, due[message], fates[message]);
            Check.due(27, "fateOf(" + message + ")", due[message], x.fateOf(message));
        }
    }

    /** Promise 28, "fate: FOLDED to ROUTED": -1 and 4 are no fates, nor are the ends of int; 0 and 3 are. */
    private static void promise28Fate() {
        LogSpooler x = Check.allTo(0);
        x.message(0, 0, 0, 0, 1);
        for (int bad : new int[] {LogSpooler.FOLDED - 1, LogSpooler.ROUTED + 1, LEAST, MOST}) {
            Check.refusedAndUnchanged(28, "count(" + bad + ")", Check.INDEX, x, () -> x.count(bad));
        }
        Check.due(28, "count(FOLDED)", 0, x.count(0));
        Check.due(28, "count(ROUTED)", 1, x.count(3));
    }

    /**
     * Promise 28, "by the ledger": 0 of each at first, whatever number FOLDED has; as many as come;
     * 400 in all at most.
     */
    private static void promise28ByTheLedger() {
        LogSpooler x = new LogSpooler();
        for (int fate = 0; fate < 4; fate++) {
            Check.due(28, "count(" + fate + ") at first", 0, x.count(fate));
        }
        x.setRate(1, 60);
        x.setRule(0, 255, 7, 1, 0);
        for (int i = 0; i < 100; i++) {
            x.message(0, 0, 0, 0, 1);
            x.message(1, 0, 0, Math.min(i, 1), 1);
            x.message(2, 0, 0, Math.min(i, 1), 1);
            x.message(3, 0, 0, 0, 1);
        }
        int[] due = {99 + 99, 99 + 99, 3, 1};
        for (int fate = 0; fate < 4; fate++) {
            Check.due(28, "count(" + fate + ") of 400", due[fate], x.count(fate));
        }
    }

    /**
     * Promise 29, no "such ... message": -1, as many as have come, and the ends of int; with 0, 1
     * and 400 of them.
     */
    private static void promise29Message() {
        LogSpooler x = Check.allTo(0);
        for (int come : new int[] {0, 1, 400}) {
            Check.fill(x, come - x.messages(), 1);
            for (int bad : new int[] {-1, come, come + 1, LEAST, MOST}) {
                Check.refused(29, "targetsOf(" + bad + ") of " + come, Check.INDEX, () -> x.targetsOf(bad));
            }
            if (come > 0) {
                Check.due(29, "targetsOf the first of " + come, 1, x.targetsOf(0));
            }
        }
        Check.due(29, "targetsOf the last of 400, a limited one", 0, x.targetsOf(399));
    }

    /**
     * Promise 29, "each target counts 2 to the power of its number": each of 0 to 4 alone, and all
     * of them, 31.
     */
    private static void promise29EveryTarget() {
        LogSpooler x = new LogSpooler();
        for (int target = 0; target < 5; target++) {
            x.setRule(0, 255, 7, NONE, target);
            x.message(target, 0, 0, 0, 1);
            Check.due(29, "targetsOf with target " + target, 1 << target, x.targetsOf(target));
        }
        for (int target = 0; target < 5; target++) {
            x.setRule(5 - target, 255, 7, NONE, target);
        }
        x.message(5, 0, 0, 0, 1);
        Check.due(29, "targetsOf with all targets", 31, x.targetsOf(5));
    }

    /**
     * Promise 29, an empty set: of a message that was folded, limited or unrouted, told lines'
     * targets not counted.
     */
    private static void promise29WithoutTargets() {
        LogSpooler x = Check.allTo(0);
        x.setRate(1, 1);
        x.message(0, 0, 0, 0, 1);
        x.message(0, 0, 0, 0, 1);
        x.message(0, 0, 0, 1, 1);
        x.setRule(0, 32, 7, NONE, 0);
        x.pass(1);
        x.message(0, 0, 0, 2, 1);
        int[] fates = {LogSpooler.ROUTED, LogSpooler.FOLDED, LogSpooler.LIMITED, LogSpooler.UNROUTED};
        int[] targets = {1, 0, 0, 0};
        for (int message = 0; message < 4; message++) {
            Check.due(27, "fateOf(" + message + ")", fates[message], x.fateOf(message));
            Check.due(29, "targetsOf(" + message + ")", targets[message], x.targetsOf(message));
        }
        Check.dueLines(7, "[0 10001 100001]", x, 0, NONE);
    }

    /**
     * Promise 29, "FORWARD too, if it was lost there": of the 30th, which is queued, and the 31st,
     * which is lost.
     */
    private static void promise29LostThere() {
        LogSpooler x = Check.withTokens(Check.allTo(LogSpooler.FORWARD));
        Check.fill(x, 31, 1);
        Check.due(25, "lost", 1, x.lost());
        Check.due(29, "targetsOf the 30th", 16, x.targetsOf(29));
        Check.due(29, "targetsOf the 31st", 16, x.targetsOf(30));
    }

    /**
     * Promise 29, "to which a message went": it stays when rules change, files are rotated away,
     * and lines are acknowledged.
     */
    private static void promise29AsItWent() {
        LogSpooler x = Check.allTo(0);
        x.setRule(1, 255, 7, NONE, LogSpooler.FORWARD);
        x.message(0, 0, 0, 0, 1);
        x.setFile(0, 1000, 0, 0);
        x.rotate(0);
        x.connect();
        x.send();
        x.acknowledge();
        x.removeRule(0);
        x.removeRule(1);
        Check.due(29, "targetsOf after all is gone", 17, x.targetsOf(0));
        Check.due(27, "fateOf after all is gone", LogSpooler.ROUTED, x.fateOf(0));
    }

    // ---- all promises

    /**
     * "An object is used for at most 512 calls": the 512th still answers as is due, after 400
     * messages and 110 seconds, and after 510 times 100 seconds.
     */
    private static void last512thCall() {
        LogSpooler x = Check.allTo(0);
        for (int i = 0; i < 400; i++) {
            x.message(0, 0, 0, 0, 1);
        }
        for (int i = 0; i < 110; i++) {
            x.pass(1);
        }
        Check.due(14, "time, call 512", 110, x.time());
        LogSpooler y = Check.allTo(0);
        for (int i = 0; i < 510; i++) {
            y.pass(100);
        }
        Check.due(14, "time, call 512", 51000, y.time());
    }
}
