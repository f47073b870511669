/**
 * Promises 1 to 6 at their bounds: a method for each sentence that names a bound, and its remark
 * says the promise, the sentence and the cases.
 */
public final class SettingsBoundaryTest {
    private static final int NONE = LogSpooler.NONE;
    private static final int LEAST = Integer.MIN_VALUE;
    private static final int MOST = Integer.MAX_VALUE;

    public static void main(String[] args) {
        promise1Senders();
        promise1NoLastMessage();
        promise1TokenTime();
        promise1FoldTime();
        promise1NoRules();
        promise1EmptyFiles();
        promise1GreatestSize();
        promise1NoAge();
        promise1Kept();
        promise1NoConnection();
        promise1EmptyLedger();
        promise1NothingShared();
        promise2Burst();
        promise2Seconds();
        promise2RefusedSetsNothing();
        promise2MoreThanTheBurst();
        promise2FewerThanTheBurst();
        promise2ShortestTokenTime();
        promise2LongestTokenTime();
        promise2MultiplesOfTheTime();
        promise2BurstBefore();
        promise3Seconds();
        promise3RefusedSetsNothing();
        promise3NothingIsFoldedWith0();
        promise3ToldWithTheNextMessage();
        promise3ToldWithALimitedMessage();
        promise3ToldWithTheNextSecond();
        promise3ShortestAndLongest();
        promise3AwayFrom0();
        promise3FoldTimeBefore();
        promise4Rule();
        promise4Facilities();
        promise4EachFacility();
        promise4Severity();
        promise4EachSeverity();
        promise4Sender();
        promise4EachSender();
        promise4Target();
        promise4FirstLineDecides();
        promise4RefusedSetsNothing();
        promise4InPlaceOfWhatItWas();
        promise4HowManyAreSet();
        promise5Rule();
        promise5WhetherItWasSet();
        promise6File();
        promise6Size();
        promise6Age();
        promise6Kept();
        promise6FirstLineDecides();
        promise6RefusedSetsNothing();
        promise6SmallestSize();
        promise6LargestSize();
        promise6SizeBelowWhatTheFileHas();
        promise6ShortestAge();
        promise6LongestAge();
        promise6AgeOfLinesThatAreThere();
        promise6NoneKept();
        promise6MostKept();
        promise6BeyondTheNumber();
        promise6SizeThatTheFileHas();
        Check.end("SettingsBoundaryTest");
    }

    // ---- promise 1

    /**
     * Promise 1, "senders 0 to 5 ... as many as the burst at first": the first and the last sender,
     * 5 tokens each.
     */
    private static void promise1Senders() {
        LogSpooler x = new LogSpooler();
        for (int sender = 0; sender < 6; sender++) {
            Check.due(1, "tokens of sender " + sender + " at first", 5, x.tokens(sender));
            Check.due(1, "repeats of sender " + sender + " at first", 0, x.repeats(sender));
            Check.due(1, "drops of sender " + sender + " at first", 0, x.drops(sender));
        }
    }

    /**
     * Promise 1, "a last message, none at first": the least message of all, as a sender's first, is
     * no repeat.
     */
    private static void promise1NoLastMessage() {
        LogSpooler x = Check.allTo(0);
        for (int sender = 0; sender < 6; sender++) {
            Check.due(1, "first message of sender " + sender, LogSpooler.ROUTED, x.message(sender, 0, 0, 0, 1));
        }
        Check.dueLines(1, "[0 1 2 3 4 5]", x, 0, NONE);
    }

    /**
     * Promise 1, "The token time is 10 seconds at first": no token at time 9, one at 10, the time
     * being 0 at first.
     */
    private static void promise1TokenTime() {
        LogSpooler x = new LogSpooler();
        Check.due(1, "time at first", 0, x.time());
        x.message(0, 0, 0, 0, 1);
        x.pass(9);
        Check.due(1, "tokens at time 9", 4, x.tokens(0));
        x.pass(1);
        Check.due(1, "tokens at time 10", 5, x.tokens(0));
    }

    /**
     * Promise 1, "The fold time is 30 seconds at first": a repeat waits for 29 seconds, and is told
     * at 30.
     */
    private static void promise1FoldTime() {
        LogSpooler x = new LogSpooler();
        x.message(0, 0, 0, 0, 1);
        x.message(0, 0, 0, 0, 1);
        x.pass(29);
        Check.due(1, "repeats after 29 seconds", 1, x.repeats(0));
        x.pass(1);
        Check.due(1, "repeats after 30 seconds", 0, x.repeats(0));
    }

    /** Promise 1, "no rules": none of 0 to 5 is set, and not even the most severe message has a target. */
    private static void promise1NoRules() {
        LogSpooler x = new LogSpooler();
        for (int rule = 0; rule < 6; rule++) {
            Check.due(1, "removeRule(" + rule + ") at first", 0, x.removeRule(rule) ? 1 : 0);
        }
        for (int facility = 0; facility < 5; facility++) {
            Check.due(1, "message without rules", LogSpooler.UNROUTED, x.message(0, facility, 0, 0, 1));
        }
        Check.due(1, "first setRule", 1, x.setRule(5, 0, 0, NONE, 0));
    }

    /** Promise 1, "empty files": no size, line or generation in any of 0 to 3. */
    private static void promise1EmptyFiles() {
        LogSpooler x = new LogSpooler();
        for (int file = 0; file < 4; file++) {
            int empty = file;
            Check.due(1, "size of file " + file, 0, x.size(file));
            Check.due(1, "lines of file " + file, 0, x.lines(file, NONE));
            Check.due(1, "generations of file " + file, 0, x.generations(file));
            Check.refused(1, "line of empty file " + file, Check.INDEX, () -> x.line(empty, NONE, 0));
            Check.refused(1, "lines of no generation of file " + file, Check.INDEX, () -> x.lines(empty, 0));
            Check.refused(1, "rotate of empty file " + file, Check.STATE, () -> x.rotate(empty));
        }
    }

    /** Promise 1, "a greatest size, 1000 at first": each file takes 1000, and is rotated for 1 more. */
    private static void promise1GreatestSize() {
        for (int file = 0; file < 4; file++) {
            LogSpooler x = Check.allTo(file);
            for (int sender = 0; sender < 5; sender++) {
                x.message(sender, 0, 0, 0, 200);
            }
            Check.due(1, "size of file " + file + ", full", 1000, x.size(file));
            Check.due(1, "generations of file " + file + ", full", 0, x.generations(file));
            x.message(5, 0, 0, 0, 1);
            Check.due(1, "size of file " + file + " after 1 more", 1, x.size(file));
            Check.due(1, "generations of file " + file + " after 1 more", 1, x.generations(file));
        }
    }

    /**
     * Promise 1, "an age, 0 at first (no age)": no file is rotated, even over the greatest age that
     * there is.
     */
    private static void promise1NoAge() {
        for (int file = 0; file < 4; file++) {
            LogSpooler x = Check.allTo(file);
            x.message(0, 0, 0, 0, 1);
            for (int i = 0; i < 11; i++) {
                Check.due(1, "pass without an age", 0, x.pass(100));
            }
            Check.due(1, "lines of file " + file + " at time 1100", 1, x.lines(file, NONE));
        }
    }

    /** Promise 1, "a number of generations that are kept, 2 at first": a third one is deleted. */
    private static void promise1Kept() {
        for (int file = 0; file < 4; file++) {
            LogSpooler x = Check.allTo(file);
            int[] generations = {1, 2, 2};
            for (int text = 0; text < 3; text++) {
                x.message(0, 0, 0, text, 1);
                Check.due(1, "rotate " + text + " of file " + file, generations[text], x.rotate(file));
            }
            Check.dueLines(1, "[2]", x, file, 0);
            Check.dueLines(1, "[1]", x, file, 1);
        }
    }

    /** Promise 1, "no connection": what needs one is refused, and nothing waits. */
    private static void promise1NoConnection() {
        LogSpooler x = Check.allTo(LogSpooler.FORWARD);
        Check.due(1, "queued at first", 0, x.queued());
        Check.due(1, "inFlight at first", 0, x.inFlight());
        Check.due(1, "acknowledged at first", 0, x.acknowledged());
        Check.due(1, "lost at first", 0, x.lost());
        Check.refused(1, "disconnect at first", Check.STATE, x::disconnect);
        Check.refused(1, "acknowledge at first", Check.STATE, x::acknowledge);
        x.message(0, 0, 0, 0, 1);
        Check.refused(1, "send at first, of a queued line", Check.STATE, x::send);
        Check.due(1, "connect", 1, x.connect());
    }

    /** Promise 1, a new ledger: no message, and not even number 0 has a fate or targets. */
    private static void promise1EmptyLedger() {
        LogSpooler x = new LogSpooler();
        Check.due(1, "messages at first", 0, x.messages());
        for (int fate = LogSpooler.FOLDED; fate <= LogSpooler.ROUTED; fate++) {
            Check.due(1, "count(" + fate + ") at first", 0, x.count(fate));
        }
        Check.refused(1, "fateOf(0) at first", Check.INDEX, () -> x.fateOf(0));
        Check.refused(1, "targetsOf(0) at first", Check.INDEX, () -> x.targetsOf(0));
    }

    /** Promise 1, a new object beside a used one: it has nothing of it. */
    private static void promise1NothingShared() {
        String fresh = Check.picture(new LogSpooler());
        LogSpooler used = Check.allTo(0);
        used.setRate(1, 1);
        used.setFold(0);
        used.message(0, 0, 0, 0, 1);
        used.pass(7);
        used.connect();
        LogSpooler x = new LogSpooler();
        Check.due(1, "picture of a new object is another", 1, Check.picture(x).equals(fresh) ? 1 : 0);
        Check.due(1, "setRate of a new object", 5, x.setRate(9, 9));
        Check.due(1, "setFold of a new object", 30, x.setFold(9));
        Check.due(1, "setRule of a new object", 1, x.setRule(3, 0, 0, NONE, 0));
        Check.due(1, "connect of a new object", 0, x.connect());
    }

    // ---- promise 2

    /** Promise 2, "burst: 1 to 50": 0 and 51 are refused, and the ends of int; 1 and 50 are taken. */
    private static void promise2Burst() {
        LogSpooler x = new LogSpooler();
        for (int bad : new int[] {0, 51, -1, LEAST, MOST}) {
            Check.refusedAndUnchanged(2, "setRate(" + bad + ", 10)", Check.ARGUMENT, x, () -> x.setRate(bad, 10));
        }
        Check.due(2, "setRate(50, 10)", 5, x.setRate(50, 10));
        Check.due(2, "setRate(1, 10)", 50, x.setRate(1, 10));
        Check.due(2, "tokens with the burst 1", 1, x.tokens(0));
    }

    /** Promise 2, "seconds: 1 to 60": 0 and 61 are refused, and the ends of int; 1 and 60 are taken. */
    private static void promise2Seconds() {
        LogSpooler x = new LogSpooler();
        for (int bad : new int[] {0, 61, -1, LEAST, MOST}) {
            Check.refusedAndUnchanged(2, "setRate(5, " + bad + ")", Check.ARGUMENT, x, () -> x.setRate(5, bad));
        }
        Check.due(2, "setRate(5, 60)", 5, x.setRate(5, 60));
        Check.due(2, "setRate(5, 1)", 5, x.setRate(5, 1));
    }

    /**
     * Promise 2, "a call that throws changes nothing": not the burst, the tokens or the token time,
     * if the other is wrong.
     */
    private static void promise2RefusedSetsNothing() {
        LogSpooler x = new LogSpooler();
        int[][] halfWrong = {{1, 0}, {1, 61}, {50, 0}, {50, 61}, {0, 1}, {51, 1}, {0, 60}, {51, 60}, {0, 0}};
        for (int[] a : halfWrong) {
            Check.refusedAndUnchanged(2, "setRate(" + a[0] + ", " + a[1] + ")", Check.ARGUMENT, x,
                    () -> x.setRate(a[0], a[1]));
        }
        x.message(0, 0, 0, 0, 1);
        x.message(0, 0, 0, 1, 1);
        x.pass(9);
        Check.due(2, "tokens at time 9 of token time 10", 3, x.tokens(0));
        x.pass(1);
        Check.due(2, "tokens at time 10 of token time 10", 4, x.tokens(0));
        Check.due(2, "setRate, the burst being 5 still", 5, x.setRate(5, 10));
    }

    /**
     * Promise 2, "senders with more tokens than the burst have as many as the burst": 1 more, as
     * many, 1 fewer.
     */
    private static void promise2MoreThanTheBurst() {
        LogSpooler x = new LogSpooler();
        x.message(2, 0, 0, 0, 1);
        x.message(3, 0, 0, 0, 1);
        x.message(3, 0, 0, 1, 1);
        x.setRate(4, 10);
        int[] due = {4, 4, 4, 3, 4, 4};
        for (int sender = 0; sender < 6; sender++) {
            Check.due(2, "tokens of sender " + sender + " with the burst 4", due[sender], x.tokens(sender));
        }
    }

    /**
     * Promise 2 with "each sender gets a token, if it has fewer than the burst": 1 fewer, and as
     * many; none by setRate itself.
     */
    private static void promise2FewerThanTheBurst() {
        LogSpooler x = new LogSpooler();
        x.setRate(6, 10);
        Check.due(2, "tokens, not raised with the burst", 5, x.tokens(0));
        x.pass(10);
        Check.due(2, "tokens, 1 fewer than the burst before", 6, x.tokens(0));
        x.pass(10);
        Check.due(2, "tokens, as many as the burst before", 6, x.tokens(0));
        x.setRate(50, 1);
        x.pass(43);
        Check.due(2, "tokens before the burst of 50", 49, x.tokens(5));
        x.pass(2);
        Check.due(2, "tokens at the burst of 50", 50, x.tokens(5));
    }

    /** Promise 2, token time 1: a token in each second. */
    private static void promise2ShortestTokenTime() {
        LogSpooler x = new LogSpooler();
        for (int text = 0; text < 5; text++) {
            x.message(0, 0, 0, text, 1);
        }
        x.setRate(5, 1);
        for (int second = 1; second <= 5; second++) {
            x.pass(1);
            Check.due(2, "tokens at time " + second, second, x.tokens(0));
        }
    }

    /** Promise 2, token time 60: none at 59, one at 60, none at 119, one at 120. */
    private static void promise2LongestTokenTime() {
        LogSpooler x = new LogSpooler();
        for (int text = 0; text < 5; text++) {
            x.message(0, 0, 0, text, 1);
        }
        x.setRate(5, 60);
        int[] steps = {59, 1, 59, 1};
        int[] due = {0, 1, 1, 2};
        for (int i = 0; i < steps.length; i++) {
            x.pass(steps[i]);
            Check.due(2, "tokens at time " + x.time(), due[i], x.tokens(0));
        }
    }

    /** Promise 2 with "whenever the time is a multiple of it": counted from time 0 and not from setRate. */
    private static void promise2MultiplesOfTheTime() {
        LogSpooler x = new LogSpooler();
        for (int text = 0; text < 5; text++) {
            x.message(0, 0, 0, text, 1);
        }
        x.pass(5);
        x.setRate(5, 6);
        Check.due(2, "tokens at time 5", 0, x.tokens(0));
        x.pass(1);
        Check.due(2, "tokens at time 6, 1 second after setRate", 1, x.tokens(0));
        x.setRate(5, 3);
        Check.due(2, "tokens at time 6, a multiple at which setRate comes", 1, x.tokens(0));
        x.pass(2);
        Check.due(2, "tokens at time 8", 1, x.tokens(0));
        x.pass(1);
        Check.due(2, "tokens at time 9", 2, x.tokens(0));
    }

    /** Promise 2, "Returns the burst before": also if it is the same burst again. */
    private static void promise2BurstBefore() {
        LogSpooler x = new LogSpooler();
        Check.due(2, "first setRate", 5, x.setRate(7, 1));
        Check.due(2, "the same again", 7, x.setRate(7, 2));
        Check.due(2, "setRate after the same", 7, x.setRate(1, 2));
    }

    // ---- promise 3

    /** Promise 3, "seconds: 0 to 100": -1 and 101 are refused, and the ends of int; 0 and 100 are taken. */
    private static void promise3Seconds() {
        LogSpooler x = new LogSpooler();
        for (int bad : new int[] {-1, 101, LEAST, MOST}) {
            Check.refusedAndUnchanged(3, "setFold(" + bad + ")", Check.ARGUMENT, x, () -> x.setFold(bad));
        }
        Check.due(3, "setFold(100)", 30, x.setFold(100));
        Check.due(3, "setFold(0)", 100, x.setFold(0));
    }

    /** Promise 3, "a call that throws changes nothing": the fold time and what was counted stay. */
    private static void promise3RefusedSetsNothing() {
        LogSpooler x = Check.allTo(0);
        x.message(0, 0, 0, 0, 1);
        x.message(0, 0, 0, 0, 1);
        for (int bad : new int[] {-1, 101}) {
            Check.refusedAndUnchanged(3, "setFold(" + bad + ") with a repeat", Check.ARGUMENT, x, () -> x.setFold(bad));
        }
        Check.due(3, "a repeat after it", LogSpooler.FOLDED, x.message(0, 0, 0, 0, 1));
        x.pass(29);
        Check.due(3, "repeats after 29 of 30 seconds", 2, x.repeats(0));
        x.pass(1);
        Check.due(3, "repeats after 30 of 30 seconds", 0, x.repeats(0));
    }

    /**
     * Promise 3, "with 0 nothing is folded": the same message takes a token each time, until none
     * is left.
     */
    private static void promise3NothingIsFoldedWith0() {
        LogSpooler x = Check.allTo(0);
        x.setFold(0);
        for (int i = 0; i < 5; i++) {
            Check.due(3, "the same with 0, time " + i, LogSpooler.ROUTED, x.message(0, 3, 3, 3, 3));
            Check.due(3, "tokens", 4 - i, x.tokens(0));
        }
        Check.due(3, "the same with 0 and no token", LogSpooler.LIMITED, x.message(0, 3, 3, 3, 3));
        Check.due(3, "repeats with 0", 0, x.repeats(0));
    }

    /**
     * Promise 3, "repeats that were counted are told with the next message of their sender": the
     * same one or another, and no other sender's.
     */
    private static void promise3ToldWithTheNextMessage() {
        for (int text = 0; text < 2; text++) {
            LogSpooler x = Check.allTo(0);
            x.message(0, 0, 0, 0, 1);
            x.message(0, 0, 0, 0, 1);
            x.setFold(0);
            Check.due(3, "repeats right after setFold(0)", 1, x.repeats(0));
            x.message(1, 0, 0, 0, 1);
            Check.due(3, "repeats after another sender's message", 1, x.repeats(0));
            x.message(0, 0, 0, text, 1);
            Check.due(3, "repeats after the next message", 0, x.repeats(0));
            Check.dueLines(3, "[0 2 10001 3]", x, 0, NONE);
        }
    }

    /** Promise 3, "the next message of their sender": also one that is limited. */
    private static void promise3ToldWithALimitedMessage() {
        LogSpooler x = Check.allTo(0);
        x.setRate(1, 60);
        x.message(0, 0, 0, 0, 1);
        x.message(0, 0, 0, 0, 1);
        x.setFold(0);
        Check.due(3, "the same with 0 and no token", LogSpooler.LIMITED, x.message(0, 0, 0, 0, 1));
        Check.due(3, "repeats after it", 0, x.repeats(0));
        Check.dueLines(3, "[0 10001]", x, 0, NONE);
    }

    /** Promise 3, "or second that passes": the first one, of repeats that came in this very second too. */
    private static void promise3ToldWithTheNextSecond() {
        LogSpooler x = Check.allTo(0);
        x.message(0, 0, 0, 0, 1);
        x.message(0, 0, 0, 0, 1);
        x.pass(3);
        x.message(1, 0, 0, 0, 1);
        x.message(1, 0, 0, 0, 1);
        x.setFold(0);
        x.pass(1);
        Check.dueLines(3, "[0 2 10001 20001]", x, 0, NONE);
        Check.due(3, "repeats of sender 0", 0, x.repeats(0));
        Check.due(3, "repeats of sender 1", 0, x.repeats(1));
        x.pass(1);
        Check.due(3, "lines, as nothing is left to tell", 4, x.lines(0, NONE));
    }

    /** Promise 3, fold times 1 and 100: told after 1 second; not after 99, and after 100. */
    private static void promise3ShortestAndLongest() {
        LogSpooler x = Check.allTo(0);
        x.setFold(1);
        x.message(0, 0, 0, 0, 1);
        Check.due(3, "a repeat with fold time 1", LogSpooler.FOLDED, x.message(0, 0, 0, 0, 1));
        Check.due(3, "repeats in the same second", 1, x.repeats(0));
        x.pass(1);
        Check.due(3, "repeats after 1 of 1 second", 0, x.repeats(0));
        x.setFold(100);
        x.message(0, 0, 0, 0, 1);
        x.pass(99);
        Check.due(3, "repeats after 99 of 100 seconds", 1, x.repeats(0));
        x.pass(1);
        Check.due(3, "repeats after 100 of 100 seconds", 0, x.repeats(0));
    }

    /**
     * Promise 3, from 0 to another fold time before a second passes: the count and its first repeat
     * go on.
     */
    private static void promise3AwayFrom0() {
        LogSpooler x = Check.allTo(0);
        x.message(0, 0, 0, 0, 1);
        x.pass(5);
        x.message(0, 0, 0, 0, 1);
        x.pass(10);
        x.setFold(0);
        x.setFold(30);
        Check.due(3, "a repeat after it", LogSpooler.FOLDED, x.message(0, 0, 0, 0, 1));
        x.pass(19);
        Check.due(3, "repeats 29 seconds after the first", 2, x.repeats(0));
        x.pass(1);
        Check.dueLines(3, "[0 10002]", x, 0, NONE);
    }

    /** Promise 3, "Returns the fold time before": also if it is the same again, and 0. */
    private static void promise3FoldTimeBefore() {
        LogSpooler x = new LogSpooler();
        Check.due(3, "first setFold", 30, x.setFold(30));
        Check.due(3, "the same again", 30, x.setFold(0));
        Check.due(3, "setFold after 0", 0, x.setFold(0));
        Check.due(3, "setFold after 0 again", 0, x.setFold(1));
        Check.due(3, "setFold after 1", 1, x.setFold(100));
    }

    // ---- promise 4

    /** Promise 4, "rule: 0 to 5": -1 and 6 are no rules, nor are the ends of int; 0 and 5 are. */
    private static void promise4Rule() {
        LogSpooler x = new LogSpooler();
        for (int bad : new int[] {-1, 6, LEAST, MOST}) {
            Check.refusedAndUnchanged(4, "setRule of rule " + bad, Check.INDEX, x,
                    () -> x.setRule(bad, 255, 7, NONE, 0));
        }
        Check.due(4, "setRule of rule 0", 1, x.setRule(0, 1, 7, NONE, 0));
        Check.due(4, "setRule of rule 5", 2, x.setRule(5, 1, 7, NONE, 3));
        x.message(0, 0, 0, 0, 1);
        Check.due(4, "targets of rules 0 and 5", 1 + 8, x.targetsOf(0));
    }

    /**
     * Promise 4, "facilities: 0 to 255": -1 and 256 are refused, and the ends of int; 0 has none,
     * 255 all.
     */
    private static void promise4Facilities() {
        LogSpooler x = Check.withTokens(new LogSpooler());
        for (int bad : new int[] {-1, 256, 257, LEAST, MOST}) {
            Check.refusedAndUnchanged(4, "setRule of facilities " + bad, Check.ARGUMENT, x,
                    () -> x.setRule(0, bad, 7, NONE, 0));
        }
        int[] sets = {0, 255};
        int[] fates = {LogSpooler.UNROUTED, LogSpooler.ROUTED};
        for (int i = 0; i < 2; i++) {
            Check.due(4, "setRule of facilities " + sets[i], 1, x.setRule(0, sets[i], 7, NONE, 0));
            for (int facility = 0; facility < 8; facility++) {
                Check.due(4, "facility " + facility + " in the set " + sets[i], fates[i], x.message(0, facility, 0, i, 1));
            }
        }
    }

    /**
     * Promise 4, "each facility counts 2 to the power of its number": each alone in the set, and
     * alone missing there.
     */
    private static void promise4EachFacility() {
        for (int only = 0; only < 8; only++) {
            LogSpooler x = Check.withTokens(new LogSpooler());
            x.setRule(0, 1 << only, 7, NONE, 0);
            x.setRule(1, 255 - (1 << only), 7, NONE, 1);
            for (int facility = 0; facility < 8; facility++) {
                x.message(0, facility, 0, 0, 1);
                Check.due(4, "targets of facility " + facility + ", " + only + " being apart",
                        facility == only ? 1 : 2, x.targetsOf(facility));
            }
        }
    }

    /** Promise 4, "severity: 0 to 7": -1 and 8 are refused, and the ends of int; 0 and 7 are taken. */
    private static void promise4Severity() {
        LogSpooler x = new LogSpooler();
        for (int bad : new int[] {-1, 8, LEAST, MOST}) {
            Check.refusedAndUnchanged(4, "setRule of severity " + bad, Check.ARGUMENT, x,
                    () -> x.setRule(0, 255, bad, NONE, 0));
        }
        Check.due(4, "setRule of severity 0", 1, x.setRule(0, 255, 0, NONE, 0));
        Check.due(4, "setRule of severity 7", 1, x.setRule(0, 255, 7, NONE, 0));
    }

    /**
     * Promise 4 with "its severity is that of the rule or less": as much, 1 less and 1 more, of
     * each of 0 to 7.
     */
    private static void promise4EachSeverity() {
        for (int most = 0; most < 8; most++) {
            LogSpooler x = Check.withTokens(new LogSpooler());
            x.setRule(0, 255, most, NONE, 0);
            for (int severity = 0; severity < 8; severity++) {
                Check.due(4, "severity " + severity + " for a rule of " + most,
                        severity <= most ? LogSpooler.ROUTED : LogSpooler.UNROUTED, x.message(0, 0, severity, 0, 1));
            }
        }
    }

    /**
     * Promise 4, "sender: a sender, or NONE for any": -2 and 6 are neither, nor are the ends of
     * int; NONE, 0 and 5 are taken.
     */
    private static void promise4Sender() {
        LogSpooler x = new LogSpooler();
        for (int bad : new int[] {-2, 6, LEAST, MOST}) {
            Check.refusedAndUnchanged(4, "setRule of sender " + bad, Check.INDEX, x, () -> x.setRule(0, 255, 7, bad, 0));
        }
        for (int good : new int[] {NONE, 0, 5}) {
            Check.due(4, "setRule of sender " + good, 1, x.setRule(0, 255, 7, good, 0));
        }
    }

    /** Promise 4 with "the sender is so": each sender alone, of a rule for it and of one for any. */
    private static void promise4EachSender() {
        for (int only = 0; only < 6; only++) {
            LogSpooler x = new LogSpooler();
            x.setRule(0, 255, 7, only, 0);
            x.setRule(1, 255, 7, NONE, 1);
            for (int sender = 0; sender < 6; sender++) {
                x.message(sender, 0, 0, 0, 1);
                Check.due(4, "targets of sender " + sender + ", the rule being for " + only,
                        sender == only ? 3 : 2, x.targetsOf(sender));
            }
        }
    }

    /** Promise 4, "target: 0 to 4": -1 and 5 are refused, and the ends of int; each of 0 to 4 is taken. */
    private static void promise4Target() {
        LogSpooler x = new LogSpooler();
        for (int bad : new int[] {-1, 5, 32, LEAST, MOST}) {
            Check.refusedAndUnchanged(4, "setRule of target " + bad, Check.ARGUMENT, x,
                    () -> x.setRule(0, 255, 7, NONE, bad));
        }
        for (int target = 0; target < 5; target++) {
            Check.due(4, "setRule of target " + target, 1, x.setRule(0, 255, 7, NONE, target));
            x.message(0, 0, 0, target, 1);
            Check.due(4, "targets, only " + target, 1 << target, x.targetsOf(target));
        }
        Check.dueLines(4, "[0]", x, 0, NONE);
        Check.dueLines(4, "[3]", x, 3, NONE);
        Check.due(4, "queued by target 4", 1, x.queued());
    }

    /**
     * Promise 4, "The first line of a method's throws clause that applies decides": no rule or
     * sender goes before what is out of range.
     */
    private static void promise4FirstLineDecides() {
        LogSpooler x = new LogSpooler();
        int[][] noSuch = {{-1, 256, 7, NONE, 0}, {6, 255, 8, NONE, 0}, {6, 255, 7, NONE, 5}, {0, -1, 7, 6, 0},
            {0, 255, -1, -2, 0}, {0, 255, 7, 6, -1}, {-1, -1, -1, -2, -1}};
        for (int[] a : noSuch) {
            Check.refusedAndUnchanged(4, "setRule(" + a[0] + ", " + a[1] + ", " + a[2] + ", " + a[3] + ", " + a[4] + ")",
                    Check.INDEX, x, () -> x.setRule(a[0], a[1], a[2], a[3], a[4]));
        }
    }

    /**
     * Promise 4, "a call that throws changes nothing": the rule that was set stands, and none comes
     * where none was.
     */
    private static void promise4RefusedSetsNothing() {
        LogSpooler x = new LogSpooler();
        x.setRule(0, 1, 3, 2, 1);
        int[][] bad = {{0, 256, 7, NONE, 2}, {0, 255, 8, NONE, 2}, {0, 255, 7, 6, 2}, {0, 255, 7, NONE, 5},
            {1, 256, 7, NONE, 2}, {1, 255, 7, NONE, 5}, {1, 255, 7, -2, 2}};
        for (int[] a : bad) {
            Check.refused(4, "setRule(" + a[0] + ", " + a[1] + ", " + a[2] + ", " + a[3] + ", " + a[4] + ")",
                    a[3] == NONE ? Check.ARGUMENT : Check.INDEX, () -> x.setRule(a[0], a[1], a[2], a[3], a[4]));
        }
        int[][] messages = {{2, 0, 3}, {2, 1, 3}, {2, 0, 4}, {1, 0, 3}};
        int[] targets = {2, 0, 0, 0};
        for (int i = 0; i < messages.length; i++) {
            x.message(messages[i][0], messages[i][1], messages[i][2], 0, 1);
            Check.due(4, "targets by the rule that stands, message " + i, targets[i], x.targetsOf(i));
        }
        Check.due(4, "setRule of the second rule", 2, x.setRule(1, 0, 0, NONE, 0));
    }

    /**
     * Promise 4, "in place of what it was": of facilities, severity, sender and target nothing
     * stays, nor of a removal.
     */
    private static void promise4InPlaceOfWhatItWas() {
        LogSpooler x = new LogSpooler();
        x.setRule(5, 1, 7, 0, 0);
        x.setRule(5, 2, 3, 1, 4);
        int[][] messages = {{0, 0, 0}, {0, 1, 0}, {1, 0, 0}, {1, 1, 4}, {1, 1, 3}};
        int[] targets = {0, 0, 0, 0, 16};
        for (int i = 0; i < messages.length; i++) {
            x.message(messages[i][0], messages[i][1], messages[i][2], 0, 1);
            Check.due(4, "targets by the new rule, message " + i, targets[i], x.targetsOf(i));
        }
        x.removeRule(5);
        x.setRule(5, 255, 7, NONE, 2);
        x.message(2, 0, 0, 0, 1);
        Check.due(4, "targets by a rule set after its removal", 4, x.targetsOf(5));
    }

    /**
     * Promise 4, "Returns how many rules are set then": 1 to 6, no more for one again, 1 after all
     * were removed.
     */
    private static void promise4HowManyAreSet() {
        LogSpooler x = new LogSpooler();
        for (int rule = 5; rule >= 0; rule--) {
            Check.due(4, "setRule of one more", 6 - rule, x.setRule(rule, 0, 0, NONE, 0));
        }
        Check.due(4, "setRule of one again", 6, x.setRule(0, 255, 7, 5, 4));
        for (int rule = 0; rule < 6; rule++) {
            x.removeRule(rule);
        }
        Check.due(4, "setRule after all were removed", 1, x.setRule(3, 0, 0, NONE, 0));
    }

    // ---- promise 5

    /**
     * Promise 5, "rule: 0 to 5": -1 and 6 are no rules, nor are the ends of int, and no rule goes
     * by them.
     */
    private static void promise5Rule() {
        LogSpooler x = new LogSpooler();
        for (int rule = 0; rule < 6; rule++) {
            x.setRule(rule, 255, 7, rule, 0);
        }
        for (int bad : new int[] {-1, 6, LEAST, MOST}) {
            Check.refusedAndUnchanged(5, "removeRule(" + bad + ")", Check.INDEX, x, () -> x.removeRule(bad) ? 1 : 0);
        }
        for (int sender = 0; sender < 6; sender++) {
            Check.due(5, "message by rule " + sender, LogSpooler.ROUTED, x.message(sender, 0, 0, 0, 1));
        }
    }

    /** Promise 5, "Returns whether it was set": each of 0 to 5, set, and then not; the others stay. */
    private static void promise5WhetherItWasSet() {
        LogSpooler x = Check.withTokens(new LogSpooler());
        for (int rule = 0; rule < 6; rule++) {
            x.setRule(rule, 255, 7, rule, 0);
        }
        for (int rule = 0; rule < 6; rule++) {
            Check.due(5, "removeRule(" + rule + ")", 1, x.removeRule(rule) ? 1 : 0);
            Check.due(5, "removeRule(" + rule + ") again", 0, x.removeRule(rule) ? 1 : 0);
            for (int sender = 0; sender < 6; sender++) {
                Check.due(5, "message of sender " + sender + " without rules 0 to " + rule,
                        sender <= rule ? LogSpooler.UNROUTED : LogSpooler.ROUTED, x.message(sender, 0, 0, rule, 1));
            }
        }
    }

    // ---- promise 6

    /**
     * Promise 6, "file: 0 to 3": -1 and 4 are no files, nor are the ends of int; FORWARD is none; 0
     * and 3 are.
     */
    private static void promise6File() {
        LogSpooler x = new LogSpooler();
        for (int bad : new int[] {-1, LogSpooler.FORWARD, LEAST, MOST}) {
            Check.refusedAndUnchanged(6, "setFile(" + bad + ", 200, 0, 0)", Check.INDEX, x,
                    () -> x.setFile(bad, 200, 0, 0));
        }
        Check.due(6, "setFile of file 0", 0, x.setFile(0, 200, 0, 0));
        Check.due(6, "setFile of file 3", 0, x.setFile(3, 200, 0, 0));
    }

    /**
     * Promise 6, "size: 200 to 5000": 199 and 5001 are refused, and the ends of int; 200 and 5000
     * are taken.
     */
    private static void promise6Size() {
        LogSpooler x = new LogSpooler();
        for (int bad : new int[] {199, 5001, 0, LEAST, MOST}) {
            Check.refusedAndUnchanged(6, "setFile(0, " + bad + ", 0, 2)", Check.ARGUMENT, x,
                    () -> x.setFile(0, bad, 0, 2));
        }
        Check.due(6, "setFile of size 200", 0, x.setFile(0, 200, 0, 2));
        Check.due(6, "setFile of size 5000", 0, x.setFile(0, 5000, 0, 2));
    }

    /**
     * Promise 6, "age: 0 to 1000 seconds": -1 and 1001 are refused, and the ends of int; 0 and 1000
     * are taken.
     */
    private static void promise6Age() {
        LogSpooler x = new LogSpooler();
        for (int bad : new int[] {-1, 1001, LEAST, MOST}) {
            Check.refusedAndUnchanged(6, "setFile(0, 1000, " + bad + ", 2)", Check.ARGUMENT, x,
                    () -> x.setFile(0, 1000, bad, 2));
        }
        Check.due(6, "setFile of age 0", 0, x.setFile(0, 1000, 0, 2));
        Check.due(6, "setFile of age 1000", 0, x.setFile(0, 1000, 1000, 2));
    }

    /**
     * Promise 6, "kept: 0 to 5 generations": -1 and 6 are refused, and the ends of int; 0 and 5 are
     * taken.
     */
    private static void promise6Kept() {
        LogSpooler x = new LogSpooler();
        for (int bad : new int[] {-1, 6, LEAST, MOST}) {
            Check.refusedAndUnchanged(6, "setFile(0, 1000, 0, " + bad + ")", Check.ARGUMENT, x,
                    () -> x.setFile(0, 1000, 0, bad));
        }
        Check.due(6, "setFile of none kept", 0, x.setFile(0, 1000, 0, 0));
        Check.due(6, "setFile of 5 kept", 0, x.setFile(0, 1000, 0, 5));
    }

    /**
     * Promise 6, "The first line of a method's throws clause that applies decides": no such file
     * goes first.
     */
    private static void promise6FirstLineDecides() {
        LogSpooler x = new LogSpooler();
        int[][] noSuch = {{-1, 199, 0, 0}, {4, 200, 1001, 0}, {4, 200, 0, 6}, {-1, -1, -1, -1}, {4, 5001, 1001, 6}};
        for (int[] a : noSuch) {
            Check.refusedAndUnchanged(6, "setFile(" + a[0] + ", " + a[1] + ", " + a[2] + ", " + a[3] + ")",
                    Check.INDEX, x, () -> x.setFile(a[0], a[1], a[2], a[3]));
        }
    }

    /**
     * Promise 6, "a call that throws changes nothing": the size, the age, what is kept and the
     * generations stay.
     */
    private static void promise6RefusedSetsNothing() {
        LogSpooler x = Check.allTo(1);
        x.setFile(1, 300, 20, 1);
        x.message(0, 0, 0, 0, 10);
        x.rotate(1);
        int[][] bad = {{199, 5, 0}, {5001, 5, 0}, {5000, -1, 0}, {5000, 1001, 5}, {5000, 5, -1}, {200, 5, 6}};
        for (int[] a : bad) {
            Check.refusedAndUnchanged(6, "setFile(1, " + a[0] + ", " + a[1] + ", " + a[2] + ")", Check.ARGUMENT, x,
                    () -> x.setFile(1, a[0], a[1], a[2]));
        }
        x.message(0, 0, 0, 1, 200);
        x.message(0, 0, 0, 2, 100);
        Check.due(6, "size, 300 of 300", 300, x.size(1));
        x.message(0, 0, 0, 3, 1);
        Check.due(6, "size, 301 of 300", 1, x.size(1));
        Check.due(6, "generations, 1 kept", 1, x.generations(1));
        Check.due(6, "pass 19 of 20 seconds", 0, x.pass(19));
        Check.due(6, "pass 20 of 20 seconds", 1, x.pass(1));
    }

    /**
     * Promise 6, the smallest size with "would be more than the greatest size": 200 fits, alone and
     * together, 201 does not.
     */
    private static void promise6SmallestSize() {
        LogSpooler x = Check.withTokens(Check.allTo(0));
        x.setFile(0, 200, 0, 5);
        x.message(0, 0, 0, 0, 200);
        Check.due(6, "generations, a line of 200 for 200", 0, x.generations(0));
        x.message(0, 0, 0, 1, 1);
        Check.due(6, "generations, 201 for 200", 1, x.generations(0));
        x.message(0, 0, 0, 2, 199);
        Check.due(6, "generations, 1 and 199 for 200", 1, x.generations(0));
        Check.due(6, "size, 1 and 199", 200, x.size(0));
        x.message(0, 0, 0, 3, 200);
        Check.due(6, "generations, 400 for 200", 2, x.generations(0));
        Check.dueLines(6, "[3]", x, 0, NONE);
        Check.dueLines(6, "[1 2]", x, 0, 0);
        Check.dueLines(6, "[0]", x, 0, 1);
    }

    /** Promise 6, the largest size: 5000 fits, 5001 does not. */
    private static void promise6LargestSize() {
        LogSpooler x = Check.withTokens(Check.allTo(3));
        x.setFile(3, 5000, 0, 2);
        Check.fill(x, 25, 200);
        Check.due(6, "size, 5000 of 5000", 5000, x.size(3));
        Check.due(6, "generations, 5000 of 5000", 0, x.generations(3));
        Check.fill(x, 1, 1);
        Check.due(6, "size, 5001 of 5000", 1, x.size(3));
        Check.due(6, "lines of the generation", 25, x.lines(3, 0));
    }

    /**
     * Promise 6, a size below what the file has: nothing is rotated by setFile, but for the next
     * line, of whatever length.
     */
    private static void promise6SizeBelowWhatTheFileHas() {
        LogSpooler x = Check.allTo(0);
        x.message(0, 0, 0, 0, 200);
        x.message(0, 0, 0, 1, 1);
        Check.due(6, "setFile of 200 with a size of 201", 201, x.setFile(0, 200, 0, 2));
        Check.due(6, "generations after it", 0, x.generations(0));
        Check.due(6, "pass, by which size alone rotates nothing", 0, x.pass(1));
        x.message(0, 0, 0, 2, 1);
        Check.dueLines(6, "[2]", x, 0, NONE);
        Check.dueLines(6, "[0 1]", x, 0, 0);
    }

    /** Promise 6, age 1: rotated 1 second after the first line, and not again without lines. */
    private static void promise6ShortestAge() {
        LogSpooler x = Check.allTo(0);
        x.setFile(0, 1000, 1, 2);
        x.message(0, 0, 0, 0, 1);
        Check.due(6, "lines in the second in which they came", 1, x.lines(0, NONE));
        Check.due(6, "pass of 1 of 1 second", 1, x.pass(1));
        Check.dueLines(6, "[0]", x, 0, 0);
        Check.due(6, "pass without lines", 0, x.pass(2));
    }

    /** Promise 6, age 1000: not rotated after 999 seconds, and rotated after 1000. */
    private static void promise6LongestAge() {
        LogSpooler x = Check.allTo(0);
        x.setFile(0, 1000, 1000, 2);
        x.message(0, 0, 0, 0, 1);
        for (int i = 0; i < 9; i++) {
            x.pass(100);
        }
        Check.due(6, "pass to 999 of 1000 seconds", 0, x.pass(99));
        Check.due(6, "pass to 1000 of 1000 seconds", 1, x.pass(1));
        Check.due(6, "lines after it", 0, x.lines(0, NONE));
    }

    /**
     * Promise 6, an age for lines that are there: it counts from when the first one came, and age 0
     * takes it away.
     */
    private static void promise6AgeOfLinesThatAreThere() {
        LogSpooler x = Check.allTo(0);
        x.message(0, 0, 0, 0, 1);
        x.pass(10);
        x.setFile(0, 1000, 11, 2);
        x.setFile(0, 1000, 0, 2);
        Check.due(6, "pass to second 11 with no age again", 0, x.pass(1));
        x.setFile(0, 1000, 13, 2);
        Check.due(6, "pass to second 12 of 13", 0, x.pass(1));
        Check.due(6, "pass to second 13 of 13", 1, x.pass(1));
        x.message(0, 0, 0, 1, 1);
        x.pass(10);
        x.setFile(0, 1000, 2, 2);
        Check.due(6, "lines beyond the age, setFile rotating nothing", 1, x.lines(0, NONE));
        Check.due(6, "pass beyond the age", 1, x.pass(1));
    }

    /** Promise 6, kept 0: what was kept is deleted, and a rotation leaves nothing. */
    private static void promise6NoneKept() {
        LogSpooler x = Check.allTo(0);
        x.message(0, 0, 0, 0, 1);
        x.rotate(0);
        x.message(0, 0, 0, 1, 1);
        Check.due(6, "setFile with none kept", 1, x.setFile(0, 1000, 0, 0));
        Check.due(6, "generations with none kept", 0, x.generations(0));
        Check.dueLines(6, "[1]", x, 0, NONE);
        Check.refused(6, "lines of a deleted generation", Check.INDEX, () -> x.lines(0, 0));
        x.rotate(0);
        Check.due(6, "generations after a rotation with none kept", 0, x.generations(0));
        x.setFile(0, 1000, 0, 5);
        Check.due(6, "generations, as none comes back", 0, x.generations(0));
    }

    /** Promise 6, kept 5: a fifth generation stays, and of six the oldest one is deleted. */
    private static void promise6MostKept() {
        LogSpooler x = Check.withTokens(Check.allTo(0));
        x.setFile(0, 1000, 0, 5);
        for (int text = 0; text < 5; text++) {
            x.message(0, 0, 0, text, 1);
            x.rotate(0);
        }
        Check.due(6, "generations after 5 rotations", 5, x.generations(0));
        Check.dueLines(6, "[0]", x, 0, 4);
        x.message(0, 0, 0, 5, 1);
        x.rotate(0);
        Check.due(6, "generations after 6 rotations", 5, x.generations(0));
        for (int generation = 0; generation < 5; generation++) {
            Check.dueLines(6, "[" + (5 - generation) + "]", x, 0, generation);
        }
    }

    /**
     * Promise 6, "generations beyond the number that are kept are deleted": as many, 1 more and
     * more than are kept; another file's stay.
     */
    private static void promise6BeyondTheNumber() {
        LogSpooler x = Check.withTokens(Check.allTo(0));
        x.setRule(1, 255, 7, NONE, 1);
        x.setFile(0, 1000, 0, 5);
        x.setFile(1, 1000, 0, 5);
        for (int text = 0; text < 4; text++) {
            x.message(0, 0, 0, text, 1);
            x.rotate(0);
            x.rotate(1);
        }
        int[] kept = {4, 3, 1, 5};
        int[] due = {4, 3, 1, 1};
        for (int i = 0; i < kept.length; i++) {
            x.setFile(0, 1000, 0, kept[i]);
            Check.due(6, "generations, " + kept[i] + " kept", due[i], x.generations(0));
            Check.dueLines(6, "[3]", x, 0, 0);
        }
        Check.due(6, "generations of the other file", 4, x.generations(1));
        x.message(0, 0, 0, 9, 1);
        x.rotate(0);
        Check.dueLines(6, "[4]", x, 0, 0);
        Check.dueLines(6, "[3]", x, 0, 1);
        Check.due(6, "generations, growing again", 2, x.generations(0));
    }

    /**
     * Promise 6, "Returns the size that the file has": 0 of an empty one, its lines' sum,
     * generations not counted.
     */
    private static void promise6SizeThatTheFileHas() {
        LogSpooler x = Check.allTo(2);
        Check.due(6, "setFile of an empty file", 0, x.setFile(2, 5000, 0, 5));
        x.message(0, 0, 0, 0, 200);
        Check.due(6, "setFile of a file with a line", 200, x.setFile(2, 5000, 0, 5));
        x.rotate(2);
        Check.due(6, "setFile of a file with a generation alone", 0, x.setFile(2, 5000, 0, 5));
        x.message(0, 0, 0, 1, 1);
        Check.due(6, "setFile of a file with both", 1, x.setFile(2, 5000, 0, 5));
    }
}
