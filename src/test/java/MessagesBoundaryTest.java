/**
 * Promises 7 to 9 at their bounds, and the bounds that the terms name for messages, seconds and
 * files: a method for each sentence, and its remark says the promise, the sentence and the cases.
 */
public final class MessagesBoundaryTest {
    private static final int NONE = LogSpooler.NONE;
    private static final int FOLDED = LogSpooler.FOLDED;
    private static final int LIMITED = LogSpooler.LIMITED;
    private static final int UNROUTED = LogSpooler.UNROUTED;
    private static final int ROUTED = LogSpooler.ROUTED;
    private static final int LEAST = Integer.MIN_VALUE;
    private static final int MOST = Integer.MAX_VALUE;

    public static void main(String[] args) {
        promise7Sender();
        promise7Facility();
        promise7Severity();
        promise7Text();
        promise7Length();
        promise7LeastAndGreatest();
        promise7FirstLineDecides();
        promise7RefusedChangesNothing();
        promise7MessagesThatHaveCome();
        promise7FullLedgerOfEveryFate();
        promise7NumberedFrom0();
        promise7SameAsTheLast();
        promise7SameAsOneBefore();
        promise7LastOfItsSender();
        promise7FoldedWithoutToken();
        promise7RepeatsAboveZero();
        promise7RepeatsFitAsTheLast();
        promise7RepeatsOfTheirSender();
        promise7RepeatsLength();
        promise7LastToken();
        promise7LimitedIsNoLast();
        promise7LimitedTellsRepeats();
        promise7UnroutedTakesAToken();
        promise7DropsAboveZero();
        promise7DropsSinceToldLast();
        promise7DropsFacility();
        promise7DropsSeverity();
        promise7DropsOfTheirSender();
        promise7DropsLength();
        promise7RepeatsThenDropsThenMessage();
        promise7FateOfTheMessageItself();
        promise7EachTargetOnce();
        promise7FullFile();
        promise7FullQueue();
        promise8Seconds();
        promise8RefusedChangesNothing();
        promise8NoRotation();
        promise8RotationsInThem();
        promise8RotationsBySize();
        promise8RotationsWithNoneKept();
        promise8TokenTime();
        promise8RepeatsAtTheFoldTime();
        promise8FirstRepeat();
        promise8RepeatsInTheirSecond();
        promise8EarlierFirst();
        promise8LowerNumberOfSeveral();
        promise8NothingToTell();
        promise8FileAtTheAge();
        promise8FirstOfTheseLines();
        promise8FirstLineAfterRotationBySize();
        promise8EmptyFile();
        promise8RepeatsBeforeFiles();
        promise8EveryFile();
        promise9File();
        promise9NoLines();
        promise9OneLine();
        promise9Generations();
        promise9NoneKept();
        promise9AgeStartsAnew();
        Check.end("MessagesBoundaryTest");
    }

    // ---- promise 7: arguments

    /** Promise 7, "sender: 0 to 5": -1 and 6 are no senders, nor are the ends of int; 0 and 5 are. */
    private static void promise7Sender() {
        LogSpooler x = Check.allTo(0);
        for (int bad : new int[] {-1, 6, LEAST, MOST}) {
            Check.refusedAndUnchanged(7, "message of sender " + bad, Check.INDEX, x, () -> x.message(bad, 0, 0, 0, 1));
        }
        Check.due(7, "message of sender 0", ROUTED, x.message(0, 0, 0, 0, 1));
        Check.due(7, "message of sender 5", ROUTED, x.message(5, 0, 0, 0, 1));
    }

    /** Promise 7, "facility: 0 to 7": -1 and 8 are refused, and the ends of int; 0 and 7 are taken. */
    private static void promise7Facility() {
        LogSpooler x = Check.allTo(0);
        for (int bad : new int[] {-1, 8, 32, LEAST, MOST}) {
            Check.refusedAndUnchanged(7, "message of facility " + bad, Check.ARGUMENT, x,
                    () -> x.message(0, bad, 0, 0, 1));
        }
        Check.due(7, "message of facility 0", ROUTED, x.message(0, 0, 0, 0, 1));
        Check.due(7, "message of facility 7", ROUTED, x.message(0, 7, 0, 0, 1));
    }

    /** Promise 7, "severity: 0 to 7": -1 and 8 are refused, and the ends of int; 0 and 7 are taken. */
    private static void promise7Severity() {
        LogSpooler x = Check.allTo(0);
        for (int bad : new int[] {-1, 8, LEAST, MOST}) {
            Check.refusedAndUnchanged(7, "message of severity " + bad, Check.ARGUMENT, x,
                    () -> x.message(0, 0, bad, 0, 1));
        }
        Check.due(7, "message of severity 0", ROUTED, x.message(0, 0, 0, 0, 1));
        Check.due(7, "message of severity 7", ROUTED, x.message(0, 0, 7, 0, 1));
    }

    /** Promise 7, "text: 0 to 99": -1 and 100 are refused, and the ends of int; 0 and 99 are taken. */
    private static void promise7Text() {
        LogSpooler x = Check.allTo(0);
        for (int bad : new int[] {-1, 100, LEAST, MOST}) {
            Check.refusedAndUnchanged(7, "message of text " + bad, Check.ARGUMENT, x, () -> x.message(0, 0, 0, bad, 1));
        }
        Check.due(7, "message of text 0", ROUTED, x.message(0, 0, 0, 0, 1));
        Check.due(7, "message of text 99", ROUTED, x.message(0, 0, 0, 99, 1));
    }

    /**
     * Promise 7, "length: 1 to 200": 0 and 201 are refused, and the ends of int; 1 and 200 are
     * taken, and are the size.
     */
    private static void promise7Length() {
        LogSpooler x = Check.allTo(0);
        for (int bad : new int[] {0, 201, -1, LEAST, MOST}) {
            Check.refusedAndUnchanged(7, "message of length " + bad, Check.ARGUMENT, x,
                    () -> x.message(0, 0, 0, 0, bad));
        }
        Check.due(7, "message of length 1", ROUTED, x.message(0, 0, 0, 0, 1));
        Check.due(7, "size after length 1", 1, x.size(0));
        Check.due(7, "message of length 200", ROUTED, x.message(0, 0, 0, 0, 200));
        Check.due(7, "size after length 200", 201, x.size(0));
    }

    /** Promise 7, all arguments at their least, and all at their greatest. */
    private static void promise7LeastAndGreatest() {
        LogSpooler x = Check.allTo(0);
        Check.due(7, "message at the least", ROUTED, x.message(0, 0, 0, 0, 1));
        Check.due(7, "message at the greatest", ROUTED, x.message(5, 7, 7, 99, 200));
        Check.due(7, "a repeat at the least", FOLDED, x.message(0, 0, 0, 0, 1));
        Check.due(7, "a repeat at the greatest", FOLDED, x.message(5, 7, 7, 99, 200));
    }

    /**
     * Promise 7, "The first line of a method's throws clause that applies decides": sender, then
     * the others, then 400 messages.
     */
    private static void promise7FirstLineDecides() {
        LogSpooler x = Check.allTo(0);
        int[][] wrong = {{8, 0, 0, 1}, {0, 8, 0, 1}, {0, 0, 100, 1}, {0, 0, 0, 0}};
        for (int round = 0; round < 2; round++) {
            for (int[] a : wrong) {
                Check.refusedAndUnchanged(7, "message of no sender with another wrong", Check.INDEX, x,
                        () -> x.message(6, a[0], a[1], a[2], a[3]));
                Check.refusedAndUnchanged(7, "message with one wrong, messages " + x.messages(), Check.ARGUMENT, x,
                        () -> x.message(0, a[0], a[1], a[2], a[3]));
            }
            Check.fill(x, 400 - x.messages(), 1);
        }
        Check.refusedAndUnchanged(7, "message of no sender with 400 come", Check.INDEX, x, () -> x.message(-1, 0, 0, 0, 1));
        Check.refusedAndUnchanged(7, "message with 400 come", Check.STATE, x, () -> x.message(0, 0, 0, 0, 1));
    }

    /**
     * Promise 7, "a call that throws changes nothing": the last message, its repeats and the
     * numbers go on as if it had not been.
     */
    private static void promise7RefusedChangesNothing() {
        LogSpooler x = Check.allTo(0);
        x.message(0, 1, 2, 3, 4);
        x.message(0, 1, 2, 3, 4);
        int[][] wrong = {{8, 2, 3, 4}, {1, 8, 3, 4}, {1, 2, 100, 4}, {1, 2, 3, 201}, {1, 2, 3, 0}};
        for (int[] a : wrong) {
            Check.refusedAndUnchanged(7, "message with one wrong after a repeat", Check.ARGUMENT, x,
                    () -> x.message(0, a[0], a[1], a[2], a[3]));
        }
        Check.due(7, "a repeat after it", FOLDED, x.message(0, 1, 2, 3, 4));
        x.message(0, 1, 2, 9, 4);
        Check.dueLines(7, "[0 10002 3]", x, 0, NONE);
    }

    /** Promise 7, "if 400 messages have come": the 400th comes, the 401st is refused, of each sender. */
    private static void promise7MessagesThatHaveCome() {
        LogSpooler x = Check.withTokens(Check.allTo(0));
        Check.fill(x, 399, 1);
        Check.due(7, "messages before the last", 399, x.messages());
        x.message(5, 7, 7, 99, 1);
        Check.due(7, "messages with the last", 400, x.messages());
        for (int sender = 0; sender < 6; sender++) {
            int from = sender;
            Check.refusedAndUnchanged(7, "message 401 of sender " + sender, Check.STATE, x,
                    () -> x.message(from, 7, 7, 0, 1));
        }
    }

    /**
     * Promise 7, 400 messages of which most were folded or limited: these have come too, and one
     * more repeat is refused.
     */
    private static void promise7FullLedgerOfEveryFate() {
        LogSpooler x = Check.allTo(0);
        x.setRate(1, 60);
        for (int i = 0; i < 200; i++) {
            x.message(0, 0, 0, 0, 1);
            x.message(1, 0, 0, i == 0 ? 0 : 1, 1);
        }
        Check.due(7, "repeats of sender 0", 199, x.repeats(0));
        Check.due(7, "drops of sender 1", 199, x.drops(1));
        Check.refusedAndUnchanged(7, "message 401, a repeat", Check.STATE, x, () -> x.message(0, 0, 0, 0, 1));
        Check.refusedAndUnchanged(7, "message 401, without a token", Check.STATE, x, () -> x.message(1, 0, 0, 1, 1));
        x.pass(30);
        Check.dueLines(7, "[0 1 10199]", x, 0, NONE);
    }

    /**
     * Promise 7, "Messages are numbered from 0": the first one is 0, each of any fate counts, a
     * refused one does not.
     */
    private static void promise7NumberedFrom0() {
        LogSpooler x = Check.allTo(0);
        x.setRate(2, 60);
        x.message(0, 0, 0, 0, 1);
        Check.due(7, "number of the first", 0, x.line(0, NONE, 0));
        x.message(0, 0, 0, 0, 1);
        Check.refused(7, "message of length 0", Check.ARGUMENT, () -> x.message(0, 0, 0, 1, 0));
        x.message(0, 0, 0, 1, 1);
        x.message(0, 0, 0, 2, 1);
        x.message(1, 0, 0, 0, 1);
        Check.dueLines(7, "[0 10001 2 4]", x, 0, NONE);
    }

    // ---- promise 7: folding

    /** Promise 7, "the same facility, severity, text and length": all four the same, and each alone 1 off. */
    private static void promise7SameAsTheLast() {
        int[][] near = {{3, 3, 3, 3}, {4, 3, 3, 3}, {2, 3, 3, 3}, {3, 4, 3, 3}, {3, 2, 3, 3}, {3, 3, 4, 3},
            {3, 3, 2, 3}, {3, 3, 3, 4}, {3, 3, 3, 2}};
        for (int i = 0; i < near.length; i++) {
            LogSpooler x = Check.allTo(0);
            x.message(0, 3, 3, 3, 3);
            int fate = i == 0 ? FOLDED : ROUTED;
            Check.due(7, "message " + i + " near the last", fate,
                    x.message(0, near[i][0], near[i][1], near[i][2], near[i][3]));
            Check.due(7, "repeats after message " + i, i == 0 ? 1 : 0, x.repeats(0));
        }
    }

    /** Promise 7, "as the last message": the same as the one before the last is no repeat. */
    private static void promise7SameAsOneBefore() {
        LogSpooler x = Check.allTo(0);
        x.message(0, 1, 1, 1, 1);
        x.message(0, 1, 1, 2, 1);
        Check.due(7, "the same as one before", ROUTED, x.message(0, 1, 1, 1, 1));
        Check.due(7, "the same as the last", FOLDED, x.message(0, 1, 1, 1, 1));
    }

    /**
     * Promise 7, "the last message of its sender": the first and last senders beside each other,
     * one after the other.
     */
    private static void promise7LastOfItsSender() {
        LogSpooler x = Check.allTo(0);
        for (int sender = 0; sender < 6; sender++) {
            Check.due(7, "the same of sender " + sender + " for the first time", ROUTED, x.message(sender, 1, 1, 1, 1));
        }
        for (int sender = 0; sender < 6; sender++) {
            Check.due(7, "the same of sender " + sender + " again", FOLDED, x.message(sender, 1, 1, 1, 1));
            Check.due(7, "repeats of sender " + sender, 1, x.repeats(sender));
        }
    }

    /**
     * Promise 7, a repeat while the sender has no token: it is folded and not limited, takes no
     * token and is no drop.
     */
    private static void promise7FoldedWithoutToken() {
        LogSpooler x = Check.allTo(0);
        x.setRate(1, 60);
        x.message(0, 1, 1, 1, 1);
        Check.due(7, "a repeat without a token", FOLDED, x.message(0, 1, 1, 1, 1));
        Check.due(7, "tokens", 0, x.tokens(0));
        Check.due(7, "drops", 0, x.drops(0));
    }

    /**
     * Promise 7, "if the count is above 0, the repeats are told": 0 repeats, 1 and 2; "the count is
     * 0 then".
     */
    private static void promise7RepeatsAboveZero() {
        String[] due = {"[0 1 2]", "[0 10001 2 3]", "[0 10002 3 4]"};
        for (int repeats = 0; repeats < 3; repeats++) {
            LogSpooler x = Check.allTo(0);
            for (int i = 0; i <= repeats; i++) {
                x.message(0, 1, 1, 1, 1);
            }
            Check.due(7, "repeats", repeats, x.repeats(0));
            x.message(0, 1, 1, 2, 1);
            Check.due(7, "repeats that are told", 0, x.repeats(0));
            x.message(0, 1, 1, 3, 1);
            Check.dueLines(7, due[repeats], x, 0, NONE);
        }
    }

    /**
     * Promise 7, "a line with the facility and severity of the last message": not those of the
     * next, nor 1 more or less.
     */
    private static void promise7RepeatsFitAsTheLast() {
        LogSpooler x = new LogSpooler();
        x.setRule(0, 1 << 3, 4, NONE, 0);
        x.setRule(1, 1 << 3, 3, NONE, 1);
        x.setRule(2, 255 - (1 << 3), 7, NONE, 2);
        x.message(0, 3, 4, 0, 1);
        x.message(0, 3, 4, 0, 1);
        x.message(0, 5, 0, 0, 1);
        Check.dueLines(7, "[0 10001]", x, 0, NONE);
        Check.dueLines(7, "[]", x, 1, NONE);
        Check.dueLines(7, "[2]", x, 2, NONE);
    }

    /**
     * Promise 7, repeats for rules with a sender: those of senders 0 and 5 go by their own, and
     * their numbers are 1 and 6 times 10000.
     */
    private static void promise7RepeatsOfTheirSender() {
        LogSpooler x = new LogSpooler();
        x.setRule(0, 255, 7, 0, 0);
        x.setRule(1, 255, 7, 5, 1);
        for (int sender = 0; sender < 6; sender += 5) {
            x.message(sender, 0, 0, 0, 1);
            x.message(sender, 0, 0, 0, 1);
        }
        x.message(0, 0, 0, 1, 1);
        x.message(5, 0, 0, 1, 1);
        Check.dueLines(7, "[0 10001 4]", x, 0, NONE);
        Check.dueLines(7, "[2 60001 5]", x, 1, NONE);
    }

    /** Promise 7, repeats with "the length 15": 185 and 15 fit 200, 186 and 15 do not. */
    private static void promise7RepeatsLength() {
        for (int length = 185; length <= 186; length++) {
            LogSpooler x = Check.allTo(0);
            x.setFile(0, 200, 0, 2);
            x.message(0, 0, 0, 0, length);
            x.message(0, 0, 0, 0, length);
            x.pass(30);
            Check.due(7, "size, repeats told after a line of " + length, length == 185 ? 200 : 15, x.size(0));
            Check.due(7, "generations, repeats told after a line of " + length, length - 185, x.generations(0));
        }
    }

    // ---- promise 7: tokens and drops

    /**
     * Promise 7, "if the sender has no token": with 1 token it is taken, with 0 the message is
     * limited; of this sender alone.
     */
    private static void promise7LastToken() {
        LogSpooler x = Check.allTo(0);
        x.setRate(2, 60);
        int[] fates = {ROUTED, ROUTED, LIMITED, LIMITED};
        int[] tokens = {1, 0, 0, 0};
        int[] drops = {0, 0, 1, 2};
        for (int i = 0; i < fates.length; i++) {
            Check.due(7, "message " + i + " with the burst 2", fates[i], x.message(0, 0, 0, i, 1));
            Check.due(7, "tokens after message " + i, tokens[i], x.tokens(0));
            Check.due(7, "drops after message " + i, drops[i], x.drops(0));
        }
        Check.due(7, "message of another sender", ROUTED, x.message(5, 0, 0, 0, 1));
        Check.due(7, "lines, none of a limited message", 3, x.lines(0, NONE));
    }

    /**
     * Promise 7, a limited message does not "become the last one": the same again is limited, the
     * last one before is folded.
     */
    private static void promise7LimitedIsNoLast() {
        LogSpooler x = Check.allTo(0);
        x.setRate(1, 60);
        x.message(0, 0, 0, 0, 1);
        Check.due(7, "message without a token", LIMITED, x.message(0, 0, 0, 1, 1));
        Check.due(7, "the same again", LIMITED, x.message(0, 0, 0, 1, 1));
        Check.due(7, "the last one before", FOLDED, x.message(0, 0, 0, 0, 1));
    }

    /**
     * Promise 7, "the repeats are told. Then, if the sender has no token": repeats are told by a
     * limited message too.
     */
    private static void promise7LimitedTellsRepeats() {
        LogSpooler x = Check.allTo(0);
        x.setRate(1, 60);
        x.message(0, 0, 0, 0, 1);
        x.message(0, 0, 0, 0, 1);
        Check.due(7, "message without a token", LIMITED, x.message(0, 0, 0, 1, 1));
        Check.due(7, "repeats after it", 0, x.repeats(0));
        Check.dueLines(7, "[0 10001]", x, 0, NONE);
    }

    /**
     * Promise 7, "otherwise UNROUTED": without targets a message takes a token, becomes the last
     * one, and tells drops.
     */
    private static void promise7UnroutedTakesAToken() {
        LogSpooler x = new LogSpooler();
        x.setRate(1, 1);
        Check.due(7, "message without targets", UNROUTED, x.message(0, 0, 0, 0, 1));
        Check.due(7, "tokens after it", 0, x.tokens(0));
        Check.due(7, "the same again", FOLDED, x.message(0, 0, 0, 0, 1));
        Check.due(7, "another one", LIMITED, x.message(0, 0, 0, 1, 1));
        Check.due(7, "repeats, told to no target", 0, x.repeats(0));
        x.pass(1);
        Check.due(7, "message without targets", UNROUTED, x.message(0, 0, 0, 2, 1));
        Check.due(7, "drops, told to no target", 0, x.drops(0));
    }

    /** Promise 7, "if messages of the sender were dropped": 0, 1 and 2 drops. */
    private static void promise7DropsAboveZero() {
        String[] due = {"[0 1]", "[0 100001 2]", "[0 100002 3]"};
        for (int drops = 0; drops < 3; drops++) {
            LogSpooler x = Check.allTo(0);
            x.setRate(1, 1);
            x.message(0, 0, 0, 0, 1);
            for (int i = 0; i < drops; i++) {
                x.message(0, 0, 0, 1, 1);
            }
            Check.due(7, "drops", drops, x.drops(0));
            x.pass(1);
            x.message(0, 0, 0, 2, 1);
            Check.due(7, "drops that are told", 0, x.drops(0));
            Check.dueLines(7, due[drops], x, 0, NONE);
        }
    }

    /**
     * Promise 7, "since that was told last": told drops are not told again, later ones count from
     * 1; seconds and repeats tell none.
     */
    private static void promise7DropsSinceToldLast() {
        LogSpooler x = Check.allTo(0);
        x.setRate(1, 10);
        for (int round = 0; round < 2; round++) {
            x.message(0, 0, 0, 3 * round, 1);
            x.message(0, 0, 0, 3 * round + 1, 1);
            x.pass(10);
            x.message(0, 0, 0, 3 * round, 1);
            Check.due(7, "drops, not told by seconds or a repeat", 1, x.drops(0));
            x.message(0, 0, 0, 3 * round + 2, 1);
            Check.due(7, "drops, told", 0, x.drops(0));
            x.pass(10);
        }
        Check.dueLines(7, "[0 10001 100001 3 4 10001 100001 7]", x, 0, NONE);
    }

    /**
     * An object in which sender 2 has 1 drop and a token; nothing but the drops has a facility
     * other than 0.
     */
    private static LogSpooler withOneDrop() {
        LogSpooler x = new LogSpooler();
        x.setRate(1, 1);
        x.message(2, 0, 7, 0, 1);
        x.message(2, 0, 7, 1, 1);
        x.pass(1);
        return x;
    }

    /**
     * Promise 7, drops with "the facility 5": a rule of each facility, and of all others, from 4 to
     * 6 and beyond.
     */
    private static void promise7DropsFacility() {
        for (int facility = 1; facility < 8; facility++) {
            LogSpooler x = withOneDrop();
            x.setRule(0, 1 << facility, 7, NONE, 0);
            x.setRule(1, 254 - (1 << facility), 7, NONE, 1);
            x.message(2, 0, 7, 2, 1);
            Check.dueLines(7, facility == 5 ? "[300001]" : "[]", x, 0, NONE);
            Check.dueLines(7, facility == 5 ? "[]" : "[300001]", x, 1, NONE);
        }
    }

    /** Promise 7, drops with "the severity 4": rules of 3, 4 and 5. */
    private static void promise7DropsSeverity() {
        LogSpooler x = withOneDrop();
        for (int file = 0; file < 3; file++) {
            x.setRule(file, 255 - 1, 3 + file, NONE, file);
        }
        x.message(2, 0, 7, 2, 1);
        Check.dueLines(7, "[]", x, 0, NONE);
        Check.dueLines(7, "[300001]", x, 1, NONE);
        Check.dueLines(7, "[300001]", x, 2, NONE);
    }

    /**
     * Promise 7, drops for rules with a sender: those of senders 0 and 5 go by their own, and their
     * numbers are 1 and 6 times 100000.
     */
    private static void promise7DropsOfTheirSender() {
        LogSpooler x = new LogSpooler();
        x.setRate(1, 1);
        x.setRule(0, 32, 7, 0, 0);
        x.setRule(1, 32, 7, 5, 1);
        for (int text = 0; text < 2; text++) {
            x.message(0, 0, 0, text, 1);
            x.message(5, 0, 0, text, 1);
        }
        x.pass(1);
        x.message(0, 0, 0, 2, 1);
        x.message(5, 0, 0, 2, 1);
        Check.dueLines(7, "[100001]", x, 0, NONE);
        Check.dueLines(7, "[600001]", x, 1, NONE);
    }

    /** Promise 7, drops with "the length 20": 180 and 20 fit 200, 181 and 20 do not. */
    private static void promise7DropsLength() {
        for (int length = 180; length <= 181; length++) {
            LogSpooler x = withOneDrop();
            x.setFile(0, 200, 0, 2);
            x.setRule(0, 2, 7, 1, 0);
            x.setRule(1, 32, 7, 2, 0);
            x.message(1, 1, 0, 0, length);
            x.message(2, 0, 7, 2, 1);
            Check.due(7, "size, drops told after a line of " + length, length == 180 ? 200 : 20, x.size(0));
            Check.due(7, "generations, drops told after a line of " + length, length - 180, x.generations(0));
        }
    }

    /** Promise 7, both repeats and drops to tell: the repeats first, then the drops, then the message. */
    private static void promise7RepeatsThenDropsThenMessage() {
        LogSpooler x = Check.allTo(0);
        x.setRate(1, 1);
        x.message(0, 0, 0, 0, 1);
        x.message(0, 0, 0, 1, 1);
        x.message(0, 0, 0, 0, 1);
        x.pass(1);
        x.message(0, 0, 0, 2, 1);
        Check.dueLines(7, "[0 10001 100001 3]", x, 0, NONE);
    }

    // ---- promise 7: targets

    /**
     * Promise 7, "goes to targets: it is ROUTED, if there is any": told lines' targets are not the
     * message's.
     */
    private static void promise7FateOfTheMessageItself() {
        LogSpooler x = withOneDrop();
        x.setRule(0, 32, 7, NONE, 0);
        Check.due(7, "message without targets that tells drops", UNROUTED, x.message(2, 0, 7, 2, 1));
        Check.due(7, "its targets", 0, x.targetsOf(2));
        Check.dueLines(7, "[300001]", x, 0, NONE);
        x.message(2, 0, 7, 2, 1);
        x.setRule(1, 1, 7, NONE, 1);
        x.pass(1);
        Check.due(7, "message without targets that tells repeats", UNROUTED, x.message(2, 1, 7, 2, 1));
        Check.dueLines(7, "[30001]", x, 1, NONE);
    }

    /**
     * Promise 7, "to each target once": six rules of one target, a file and FORWARD; then rules 0
     * and 5 of one and others between.
     */
    private static void promise7EachTargetOnce() {
        for (int target = 3; target < 5; target++) {
            LogSpooler x = new LogSpooler();
            for (int rule = 0; rule < 6; rule++) {
                x.setRule(rule, 255, 7, NONE, target);
            }
            x.message(0, 0, 0, 0, 1);
            Check.due(7, "lines of target " + target, 1, target == 3 ? x.lines(3, NONE) : x.queued());
            Check.due(7, "targets of it", 1 << target, x.targetsOf(0));
            for (int rule = 1; rule < 5; rule++) {
                x.setRule(rule, 255, 7, NONE, rule - 1);
            }
            x.message(0, 0, 0, 1, 1);
            Check.due(7, "lines of target " + target, 2, target == 3 ? x.lines(3, NONE) : x.queued());
            Check.due(7, "targets", target == 3 ? 15 : 31, x.targetsOf(1));
        }
    }

    /** Promise 7 with "the size with it would be more than the greatest size": 999, 1000 and 1001 of 1000. */
    private static void promise7FullFile() {
        LogSpooler x = Check.withTokens(Check.allTo(1));
        Check.fill(x, 4, 200);
        Check.fill(x, 1, 199);
        Check.due(7, "size, 999 of 1000", 999, x.size(1));
        Check.fill(x, 1, 1);
        Check.due(7, "size, 1000 of 1000", 1000, x.size(1));
        Check.due(7, "generations, 1000 of 1000", 0, x.generations(1));
        Check.fill(x, 1, 1);
        Check.due(7, "size, 1001 of 1000", 1, x.size(1));
        Check.dueLines(7, "[6]", x, 1, NONE);
        Check.dueLines(7, "[0 1 2 3 4 5]", x, 1, 0);
    }

    /**
     * Promise 7, a message that is lost in a full queue: it is ROUTED all the same, also as FORWARD
     * is its only target.
     */
    private static void promise7FullQueue() {
        LogSpooler x = Check.withTokens(Check.allTo(LogSpooler.FORWARD));
        Check.fill(x, 30, 1);
        Check.due(7, "message that is lost", ROUTED, x.message(5, 0, 0, 0, 1));
        Check.due(7, "lost", 1, x.lost());
    }

    // ---- promise 8

    /** Promise 8, "seconds: 1 to 100": 0 and 101 are refused, and the ends of int; 1 and 100 pass. */
    private static void promise8Seconds() {
        LogSpooler x = new LogSpooler();
        for (int bad : new int[] {0, 101, -1, LEAST, MOST}) {
            Check.refusedAndUnchanged(8, "pass(" + bad + ")", Check.ARGUMENT, x, () -> x.pass(bad));
        }
        x.pass(1);
        Check.due(8, "time after pass(1)", 1, x.time());
        x.pass(100);
        Check.due(8, "time after pass(100)", 101, x.time());
    }

    /** Promise 8, "a call that throws changes nothing": tokens, repeats and lines wait on. */
    private static void promise8RefusedChangesNothing() {
        LogSpooler x = Check.allTo(0);
        x.setRate(5, 1);
        x.setFold(1);
        x.setFile(0, 1000, 1, 2);
        x.message(0, 0, 0, 0, 1);
        x.message(0, 0, 0, 0, 1);
        for (int bad : new int[] {0, 101, -1}) {
            Check.refusedAndUnchanged(8, "pass(" + bad + ") with all due in a second", Check.ARGUMENT, x,
                    () -> x.pass(bad));
        }
        Check.due(8, "pass(1) after it", 1, x.pass(1));
        Check.due(8, "tokens after it", 5, x.tokens(0));
        Check.dueLines(8, "[0 10001]", x, 0, 0);
    }

    /**
     * Promise 8, "Returns how many times a file was rotated": 0 with empty files, with lines and no
     * age, and before the age.
     */
    private static void promise8NoRotation() {
        LogSpooler x = Check.allTo(0);
        x.setFile(1, 1000, 1, 2);
        Check.due(8, "pass with empty files", 0, x.pass(100));
        x.message(0, 0, 0, 0, 1);
        Check.due(8, "pass with a line and no age", 0, x.pass(100));
        x.setFile(0, 1000, 300, 2);
        Check.due(8, "pass before the age", 0, x.pass(100));
    }

    /**
     * Promise 8, rotated "in them": rotations by rotate and by messages before are not counted, nor
     * those of the pass before.
     */
    private static void promise8RotationsInThem() {
        LogSpooler x = Check.withTokens(Check.allTo(0));
        x.setFile(0, 200, 10, 2);
        x.message(0, 0, 0, 0, 200);
        x.message(0, 0, 0, 1, 200);
        x.rotate(0);
        x.message(0, 0, 0, 2, 200);
        Check.due(8, "pass after three other rotations", 0, x.pass(9));
        Check.due(8, "pass to the age", 1, x.pass(1));
        Check.due(8, "pass after it", 0, x.pass(1));
    }

    /**
     * Promise 8, "by its size or its age": by told repeats 1 too long for 200, and not by those
     * that just fit; both kinds add up.
     */
    private static void promise8RotationsBySize() {
        for (int length = 185; length <= 186; length++) {
            LogSpooler x = new LogSpooler();
            for (int file = 0; file < 4; file++) {
                x.setRule(file, 255, 7, NONE, file);
                x.setFile(file, 200, file == 3 ? 31 : 0, 2);
            }
            x.message(0, 0, 0, 0, length);
            x.message(0, 0, 0, 0, length);
            Check.due(8, "pass to 29 of 30 seconds", 0, x.pass(29));
            Check.due(8, "pass with repeats told after a line of " + length, length == 185 ? 0 : 4, x.pass(1));
            Check.due(8, "pass to the age 31 of a line of " + length, length == 185 ? 1 : 0, x.pass(1));
        }
        LogSpooler x = Check.allTo(0);
        x.setFile(0, 200, 5, 2);
        x.message(0, 0, 0, 0, 186);
        x.pass(1);
        x.setFold(1);
        x.message(0, 0, 0, 0, 186);
        Check.due(8, "pass, 1 by size at time 2 and 1 by age at time 7", 2, x.pass(100));
        Check.dueLines(8, "[10001]", x, 0, 0);
        Check.dueLines(8, "[0]", x, 0, 1);
    }

    /** Promise 8, a file with 0 generations kept: it is rotated all the same. */
    private static void promise8RotationsWithNoneKept() {
        LogSpooler x = Check.allTo(0);
        x.setFile(0, 1000, 1, 0);
        x.message(0, 0, 0, 0, 1);
        Check.due(8, "pass to the age with none kept", 1, x.pass(1));
        Check.due(8, "lines after it", 0, x.lines(0, NONE));
        Check.due(8, "generations after it", 0, x.generations(0));
    }

    /**
     * Promise 8 with "whenever the time is a multiple of it": in one long pass as in many short
     * ones, up to the burst.
     */
    private static void promise8TokenTime() {
        LogSpooler x = Check.allTo(0);
        x.setRate(50, 10);
        for (int text = 0; text < 5; text++) {
            x.message(0, 0, 0, text, 1);
        }
        x.pass(99);
        Check.due(8, "tokens at time 99", 9, x.tokens(0));
        x.pass(1);
        Check.due(8, "tokens at time 100", 10, x.tokens(0));
        x.pass(100);
        Check.due(8, "tokens at time 200", 20, x.tokens(0));
        x.setRate(21, 10);
        x.pass(100);
        Check.due(8, "tokens at the burst", 21, x.tokens(0));
    }

    /**
     * Promise 8, "as many seconds ago as the fold time, or more": 29, 30 and, after a shorter fold
     * time is set, 31 of 30.
     */
    private static void promise8RepeatsAtTheFoldTime() {
        LogSpooler x = Check.allTo(0);
        x.message(0, 0, 0, 0, 1);
        x.message(0, 0, 0, 0, 1);
        x.pass(29);
        Check.due(8, "repeats after 29 of 30 seconds", 1, x.repeats(0));
        x.pass(1);
        Check.due(8, "repeats after 30 of 30 seconds", 0, x.repeats(0));
        x.setFold(100);
        x.message(0, 0, 0, 0, 1);
        x.pass(30);
        x.setFold(30);
        Check.due(8, "repeats before a second passes", 1, x.repeats(0));
        x.pass(1);
        Check.due(8, "repeats after 31 of 30 seconds", 0, x.repeats(0));
    }

    /**
     * Promise 8, "first repeat since the count was 0": not the message, nor a later repeat, nor a
     * repeat told before.
     */
    private static void promise8FirstRepeat() {
        LogSpooler x = Check.allTo(0);
        x.message(0, 0, 0, 0, 1);
        x.pass(10);
        x.message(0, 0, 0, 0, 1);
        x.pass(29);
        x.message(0, 0, 0, 0, 1);
        Check.due(8, "repeats 39 seconds after the message, 29 after the first repeat", 2, x.repeats(0));
        x.pass(1);
        Check.due(8, "repeats 30 seconds after the first repeat, 1 after the second", 0, x.repeats(0));
        Check.due(8, "a repeat since, in the very second", FOLDED, x.message(0, 0, 0, 0, 1));
        x.pass(29);
        Check.due(8, "repeats 29 seconds after the first since", 1, x.repeats(0));
        x.pass(1);
        Check.dueLines(8, "[0 10002 10001]", x, 0, NONE);
    }

    /**
     * Promise 8, repeats told within a long pass: in the second in which they are due, as the age
     * of their line shows.
     */
    private static void promise8RepeatsInTheirSecond() {
        for (int length = 99; length <= 100; length++) {
            LogSpooler x = Check.allTo(0);
            x.message(0, 0, 0, 0, 1);
            x.rotate(0);
            x.setFile(0, 1000, 70, 2);
            x.message(0, 0, 0, 0, 1);
            Check.due(8, "pass(" + length + "), told at 30 and aged at 100", length - 99, x.pass(length));
        }
    }

    /**
     * Promise 8, "that with the earlier first repeat first": 1 second apart, against the senders'
     * numbers, in one second.
     */
    private static void promise8EarlierFirst() {
        LogSpooler x = Check.allTo(0);
        for (int sender = 5; sender >= 0; sender--) {
            x.message(sender, 0, 0, 0, 1);
            x.message(sender, 0, 0, 0, 1);
            x.pass(1);
        }
        x.setFold(1);
        x.pass(1);
        Check.dueLines(8, "[0 2 4 6 8 10 60001 50001 40001 30001 20001 10001]", x, 0, NONE);
    }

    /**
     * Promise 8, "of several the one with the lower number": all six in one second, whichever came
     * first in it.
     */
    private static void promise8LowerNumberOfSeveral() {
        LogSpooler x = Check.allTo(0);
        for (int sender = 5; sender >= 0; sender--) {
            x.message(sender, 0, 0, 0, 1);
            x.message(sender, 0, 0, 0, 1);
        }
        x.pass(30);
        Check.dueLines(8, "[0 2 4 6 8 10 10001 20001 30001 40001 50001 60001]", x, 0, NONE);
    }

    /**
     * Promise 8, senders without repeats: nothing is told of them, however long ago their last
     * message was, with any fold time.
     */
    private static void promise8NothingToTell() {
        LogSpooler x = Check.allTo(0);
        x.message(0, 0, 0, 0, 1);
        x.pass(100);
        x.setFold(0);
        x.pass(100);
        Check.dueLines(8, "[0]", x, 0, NONE);
    }

    /**
     * Promise 8, "as many seconds ago as the age, or more": 9, 10 and, after a shorter age is set,
     * 11 of 10.
     */
    private static void promise8FileAtTheAge() {
        LogSpooler x = Check.allTo(0);
        x.setFile(0, 1000, 10, 2);
        x.message(0, 0, 0, 0, 1);
        Check.due(8, "pass to 9 of 10 seconds", 0, x.pass(9));
        Check.due(8, "pass to 10 of 10 seconds", 1, x.pass(1));
        x.setFile(0, 1000, 0, 2);
        x.message(0, 0, 0, 1, 1);
        x.pass(10);
        x.setFile(0, 1000, 10, 2);
        Check.due(8, "pass to 11 of 10 seconds", 1, x.pass(1));
    }

    /**
     * Promise 8, "the first of these lines": later lines do not count, and lines after a rotation
     * have a first one of their own.
     */
    private static void promise8FirstOfTheseLines() {
        LogSpooler x = Check.allTo(0);
        x.setFile(0, 1000, 10, 2);
        x.message(0, 0, 0, 0, 1);
        x.pass(9);
        x.message(0, 0, 0, 1, 1);
        Check.due(8, "pass to 10 seconds after the first, 1 after the second", 1, x.pass(1));
        Check.dueLines(8, "[0 1]", x, 0, 0);
        x.message(0, 0, 0, 2, 1);
        Check.due(8, "pass to 9 seconds after the first since", 0, x.pass(9));
        Check.due(8, "pass to 10 seconds after the first since", 1, x.pass(1));
    }

    /** Promise 8, a file rotated by its size: the line that did it is the first of these lines then. */
    private static void promise8FirstLineAfterRotationBySize() {
        LogSpooler x = Check.allTo(0);
        x.setFile(0, 200, 10, 2);
        x.message(0, 0, 0, 0, 200);
        x.pass(6);
        x.message(0, 0, 0, 1, 200);
        Check.due(8, "pass to 9 seconds after the second", 0, x.pass(9));
        Check.due(8, "pass to 10 seconds after the second", 1, x.pass(1));
    }

    /**
     * Promise 8, "if they have an age and lines": an empty file with the age 1 gets no generation,
     * new or after a rotation.
     */
    private static void promise8EmptyFile() {
        LogSpooler x = Check.allTo(0);
        x.setFile(0, 1000, 1, 2);
        Check.due(8, "pass with an empty file", 0, x.pass(5));
        x.message(0, 0, 0, 0, 1);
        Check.due(8, "pass with a line: rotated once, and not when empty", 1, x.pass(100));
        Check.due(8, "generations", 1, x.generations(0));
    }

    /**
     * Promise 8, "repeats are told ... Then files": a line told in the second of the age goes into
     * the rotation.
     */
    private static void promise8RepeatsBeforeFiles() {
        LogSpooler x = Check.allTo(0);
        x.setFile(0, 1000, 30, 2);
        x.message(0, 0, 0, 0, 1);
        x.message(0, 0, 0, 0, 1);
        Check.due(8, "pass to fold time and age", 1, x.pass(30));
        Check.dueLines(8, "[0 10001]", x, 0, 0);
        Check.dueLines(8, "[]", x, 0, NONE);
    }

    /** Promise 8, files 0 to 3: each of them is rotated at its age, and all in one second count 4. */
    private static void promise8EveryFile() {
        LogSpooler x = new LogSpooler();
        for (int file = 0; file < 4; file++) {
            x.setRule(file, 255, 7, NONE, file);
            x.setFile(file, 1000, 5, 2);
        }
        x.message(0, 0, 0, 0, 1);
        Check.due(8, "pass to 4 of 5 seconds", 0, x.pass(4));
        Check.due(8, "pass to 5 of 5 seconds", 4, x.pass(1));
        for (int file = 0; file < 4; file++) {
            Check.dueLines(8, "[0]", x, file, 0);
        }
    }

    // ---- promise 9

    /**
     * Promise 9, "file: 0 to 3": -1 and 4 are no files, nor are the ends of int, which goes before
     * having no lines; 0 and 3 are.
     */
    private static void promise9File() {
        LogSpooler x = Check.allTo(0);
        x.setRule(1, 255, 7, NONE, 3);
        for (int bad : new int[] {-1, LogSpooler.FORWARD, LEAST, MOST}) {
            Check.refusedAndUnchanged(9, "rotate(" + bad + ")", Check.INDEX, x, () -> x.rotate(bad));
        }
        x.message(0, 0, 0, 0, 1);
        Check.due(9, "rotate(0)", 1, x.rotate(0));
        Check.due(9, "rotate(3)", 1, x.rotate(3));
    }

    /**
     * Promise 9, "if it has no lines": new, just rotated, and rotated by its age; beside files that
     * have lines.
     */
    private static void promise9NoLines() {
        LogSpooler x = Check.allTo(1);
        Check.refusedAndUnchanged(9, "rotate of a new file", Check.STATE, x, () -> x.rotate(1));
        x.message(0, 0, 0, 0, 1);
        for (int file = 0; file < 4; file += 2) {
            int empty = file;
            Check.refusedAndUnchanged(9, "rotate of file " + file + " beside lines", Check.STATE, x, () -> x.rotate(empty));
        }
        x.rotate(1);
        Check.refusedAndUnchanged(9, "rotate of a file just rotated", Check.STATE, x, () -> x.rotate(1));
        x.setFile(1, 1000, 1, 2);
        x.message(0, 0, 0, 1, 1);
        x.pass(1);
        Check.refusedAndUnchanged(9, "rotate of a file rotated by its age", Check.STATE, x, () -> x.rotate(1));
    }

    /** Promise 9, "the file has no lines" after it: with a single line, and with many. */
    private static void promise9OneLine() {
        LogSpooler x = Check.withTokens(Check.allTo(2));
        for (int lines = 1; lines <= 5; lines += 4) {
            Check.fill(x, lines, 1);
            x.rotate(2);
            Check.due(9, "lines after rotate of " + lines, 0, x.lines(2, NONE));
            Check.due(9, "size after rotate of " + lines, 0, x.size(2));
            Check.due(9, "lines of generation 0", lines, x.lines(2, 0));
        }
    }

    /**
     * Promise 9, "Returns how many generations it has then", "those beyond the number that are kept
     * are deleted": for each kept of 0 to 5.
     */
    private static void promise9Generations() {
        for (int kept = 0; kept <= 5; kept++) {
            LogSpooler x = Check.withTokens(Check.allTo(2));
            x.setFile(2, 1000, 0, kept);
            for (int turn = 1; turn <= 7; turn++) {
                Check.fill(x, 1, 1);
                Check.due(9, "rotate " + turn + " with " + kept + " kept", Math.min(turn, kept), x.rotate(2));
            }
            for (int generation = 0; generation < kept; generation++) {
                Check.dueLines(9, "[" + (6 - generation) + "]", x, 2, generation);
            }
        }
    }

    /** Promise 9, 0 generations kept: 0 is the answer, the lines are gone, and a second rotate finds none. */
    private static void promise9NoneKept() {
        LogSpooler x = Check.allTo(2);
        x.setFile(2, 1000, 0, 0);
        x.message(0, 0, 0, 0, 1);
        Check.due(9, "rotate with none kept", 0, x.rotate(2));
        Check.refusedAndUnchanged(9, "rotate again", Check.STATE, x, () -> x.rotate(2));
        Check.refused(9, "line of what was deleted", Check.INDEX, () -> x.line(2, 0, 0));
    }

    /**
     * Promise 9 with a file's age: it counts from the first line since the rotation, 9 and 10 of 10
     * seconds.
     */
    private static void promise9AgeStartsAnew() {
        LogSpooler x = Check.allTo(2);
        x.setFile(2, 1000, 10, 2);
        x.message(0, 0, 0, 0, 1);
        x.pass(9);
        x.rotate(2);
        x.message(0, 0, 0, 1, 1);
        Check.due(9, "pass to 9 seconds after it", 0, x.pass(9));
        Check.due(9, "pass to 10 seconds after it", 1, x.pass(1));
    }
}
