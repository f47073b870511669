/**
 * Promises 10 to 13 and 22 to 25 at their bounds: a method for each sentence that names a bound,
 * and its remark says the promise, the sentence and the cases.
 */
public final class ForwarderBoundaryTest {
    public static void main(String[] args) {
        promise10Connected();
        promise10HowManyAreQueued();
        promise11NotConnected();
        promise11HowManyWereInFlight();
        promise11AheadOfTheOthers();
        promise11InTheirOrder();
        promise11FullQueue();
        promise11TwiceInARow();
        promise12NotConnected();
        promise12NoneIsQueued();
        promise12FiveInFlight();
        promise12FirstQueuedLine();
        promise13NoneInFlight();
        promise13FirstInFlight();
        promise13AfterTheConnectionIsLost();
        promise22FewerThan30();
        promise22QueuedWithoutConnection();
        promise22ToldLines();
        promise23NoneToFive();
        promise24Acknowledged();
        promise25QueueFull();
        promise25QueuedAndInFlightTogether();
        promise25RoomByAcknowledgingAlone();
        promise25LostForGood();
        promise25FilesAreNotLost();
        promise25LongestRun();
        Check.end("ForwarderBoundaryTest");
    }

    /** An object with so many lines queued, numbered from 0. */
    private static LogSpooler withQueued(int lines) {
        LogSpooler x = Check.withTokens(Check.allTo(LogSpooler.FORWARD));
        Check.fill(x, lines, 1);
        return x;
    }

    /** The same, connected and with so many of the lines in flight. */
    private static LogSpooler withFlying(int lines, int flying) {
        LogSpooler x = withQueued(lines);
        x.connect();
        for (int i = 0; i < flying; i++) {
            x.send();
        }
        return x;
    }

    private static void dueState(int promise, String when, LogSpooler x, int queued, int inFlight, int lost) {
        Check.due(promise, "queued " + when, queued, x.queued());
        Check.due(promise, "inFlight " + when, inFlight, x.inFlight());
        Check.due(promise, "lost " + when, lost, x.lost());
    }

    // ---- promise 10

    /**
     * Promise 10, "if it is connected": refused when connected, with and without lines, and not
     * refused after a lost connection.
     */
    private static void promise10Connected() {
        LogSpooler empty = withFlying(0, 0);
        Check.refusedAndUnchanged(10, "connect while connected, without lines", Check.STATE, empty, empty::connect);
        LogSpooler x = withFlying(6, 5);
        Check.refusedAndUnchanged(10, "connect while connected, with lines", Check.STATE, x, x::connect);
        Check.due(10, "acknowledge, as a refused connect loses none in flight", 0, x.acknowledge());
        x.disconnect();
        Check.due(10, "connect after a lost connection", 5, x.connect());
        Check.refusedAndUnchanged(10, "connect while connected again", Check.STATE, x, x::connect);
    }

    /** Promise 10, "Returns how many lines are queued": 0, 1 and 30. */
    private static void promise10HowManyAreQueued() {
        for (int lines : new int[] {0, 1, 30}) {
            Check.due(10, "connect with " + lines + " queued", lines, withQueued(lines).connect());
        }
    }

    // ---- promise 11

    /**
     * Promise 11, "if it is not connected": of a new object, with lines queued, and after a lost
     * connection.
     */
    private static void promise11NotConnected() {
        LogSpooler fresh = new LogSpooler();
        Check.refusedAndUnchanged(11, "disconnect of a new object", Check.STATE, fresh, fresh::disconnect);
        LogSpooler x = withQueued(2);
        Check.refusedAndUnchanged(11, "disconnect with lines queued", Check.STATE, x, x::disconnect);
        x.connect();
        x.disconnect();
        Check.refusedAndUnchanged(11, "disconnect after a lost connection", Check.STATE, x, x::disconnect);
    }

    /** Promise 11, "Returns how many lines were in flight": 0, 1 and 5; none is in flight after it. */
    private static void promise11HowManyWereInFlight() {
        for (int flying : new int[] {0, 1, 5}) {
            LogSpooler x = withFlying(6, flying);
            Check.due(11, "disconnect with " + flying + " in flight", flying, x.disconnect());
            dueState(11, "after it", x, 6, 0, 0);
        }
    }

    /**
     * Promise 11, "queued again, ahead of the others": of those queued before and those that came
     * while in flight, and with no others.
     */
    private static void promise11AheadOfTheOthers() {
        for (int lines : new int[] {5, 6, 7}) {
            LogSpooler x = withFlying(lines, 5);
            Check.fill(x, 1, 1);
            x.disconnect();
            Check.fill(x, 1, 1);
            Check.due(11, "connect after it", lines + 2, x.connect());
            for (int line = 0; line < lines + 2; line++) {
                Check.due(11, "send after it", line, x.send());
                x.acknowledge();
            }
        }
    }

    /**
     * Promise 11, "in their order": 5 in flight, the first of them acknowledged, are sent again
     * from the second on.
     */
    private static void promise11InTheirOrder() {
        LogSpooler x = withFlying(6, 5);
        x.acknowledge();
        Check.due(11, "disconnect with 4 in flight", 4, x.disconnect());
        x.connect();
        for (int line = 1; line < 6; line++) {
            Check.due(11, "send after it", line, x.send());
        }
        Check.due(11, "acknowledge after it", 1, x.acknowledge());
    }

    /**
     * Promise 11, 30 lines waiting as the connection is lost: all 30 are queued then, and the next
     * is lost.
     */
    private static void promise11FullQueue() {
        LogSpooler x = withFlying(30, 5);
        x.disconnect();
        dueState(11, "after it", x, 30, 0, 0);
        Check.fill(x, 1, 1);
        dueState(11, "after one more line", x, 30, 0, 1);
    }

    /** Promise 11, a connection that is lost twice: the lines in flight are queued again each time. */
    private static void promise11TwiceInARow() {
        LogSpooler x = withFlying(5, 5);
        for (int round = 0; round < 2; round++) {
            Check.due(11, "disconnect, round " + round, 5, x.disconnect());
            x.connect();
            for (int line = 0; line < 5; line++) {
                Check.due(11, "send, round " + round, line, x.send());
            }
        }
        dueState(11, "after it", x, 0, 5, 0);
        Check.due(11, "acknowledged after it", 0, x.acknowledged());
    }

    // ---- promise 12

    /**
     * Promise 12, "if it is not connected": with lines queued, of a new object and after a lost
     * connection.
     */
    private static void promise12NotConnected() {
        LogSpooler x = withQueued(2);
        Check.refusedAndUnchanged(12, "send while not connected", Check.STATE, x, x::send);
        x.connect();
        x.send();
        x.disconnect();
        Check.refusedAndUnchanged(12, "send after a lost connection", Check.STATE, x, x::send);
    }

    /**
     * Promise 12, "none is queued": connected, with none at all, and with all in flight; the last
     * one can be sent.
     */
    private static void promise12NoneIsQueued() {
        LogSpooler empty = withFlying(0, 0);
        Check.refusedAndUnchanged(12, "send with no line", Check.STATE, empty, empty::send);
        LogSpooler x = withFlying(3, 2);
        Check.due(12, "send of the last one", 2, x.send());
        Check.refusedAndUnchanged(12, "send with all in flight", Check.STATE, x, x::send);
        Check.fill(x, 1, 1);
        Check.due(12, "send of one that came since", 3, x.send());
    }

    /**
     * Promise 12, "or 5 are in flight": with 4 it can be sent, with 5 not, and again after one was
     * acknowledged.
     */
    private static void promise12FiveInFlight() {
        LogSpooler x = withFlying(7, 4);
        Check.due(12, "send with 4 in flight", 4, x.send());
        Check.refusedAndUnchanged(12, "send with 5 in flight", Check.STATE, x, x::send);
        x.acknowledge();
        Check.due(12, "send with 4 in flight again", 5, x.send());
        Check.refusedAndUnchanged(12, "send with 5 in flight again", Check.STATE, x, x::send);
    }

    /** Promise 12, "Sends the first queued line", and returns it: from the first to the last of 30. */
    private static void promise12FirstQueuedLine() {
        LogSpooler x = withFlying(30, 0);
        for (int line = 0; line < 30; line++) {
            Check.due(12, "send", line, x.send());
            dueState(12, "after send " + line, x, 29 - line, 1, 0);
            x.acknowledge();
        }
        dueState(12, "after all", x, 0, 0, 0);
    }

    // ---- promise 13

    /**
     * Promise 13, "if none is in flight": without lines, with lines that are only queued, and after
     * the last one.
     */
    private static void promise13NoneInFlight() {
        LogSpooler fresh = new LogSpooler();
        Check.refusedAndUnchanged(13, "acknowledge of a new object", Check.STATE, fresh, fresh::acknowledge);
        LogSpooler x = withFlying(2, 0);
        Check.refusedAndUnchanged(13, "acknowledge with lines queued", Check.STATE, x, x::acknowledge);
        x.send();
        Check.due(13, "acknowledge of the only one in flight", 0, x.acknowledge());
        Check.refusedAndUnchanged(13, "acknowledge after the only one", Check.STATE, x, x::acknowledge);
    }

    /** Promise 13, "Acknowledges the first line in flight", and returns it: of 5, and of 1. */
    private static void promise13FirstInFlight() {
        LogSpooler x = withFlying(6, 5);
        for (int line = 0; line < 5; line++) {
            Check.due(13, "acknowledge", line, x.acknowledge());
            dueState(13, "after acknowledge " + line, x, 1, 4 - line, 0);
        }
        x.send();
        Check.due(13, "acknowledge of the last", 5, x.acknowledge());
    }

    /** Promise 13 with "the lines in flight are queued again": refused until one is sent again. */
    private static void promise13AfterTheConnectionIsLost() {
        LogSpooler x = withFlying(1, 1);
        x.disconnect();
        Check.refusedAndUnchanged(13, "acknowledge after a lost connection", Check.STATE, x, x::acknowledge);
        x.connect();
        Check.refusedAndUnchanged(13, "acknowledge after connect", Check.STATE, x, x::acknowledge);
        x.send();
        Check.due(13, "acknowledge of what was sent again", 0, x.acknowledge());
    }

    // ---- promises 22 to 25

    /** Promise 22, "Lines that come to it are queued, if fewer than 30": the 30th is, the 31st is not. */
    private static void promise22FewerThan30() {
        LogSpooler x = withQueued(29);
        dueState(22, "with 29", x, 29, 0, 0);
        Check.fill(x, 1, 1);
        dueState(22, "with 30", x, 30, 0, 0);
        Check.fill(x, 1, 1);
        dueState(22, "with 31", x, 30, 0, 1);
    }

    /** Promise 22, "connected or not": a line is queued in either, and none is sent by itself. */
    private static void promise22QueuedWithoutConnection() {
        LogSpooler x = withQueued(1);
        dueState(22, "while not connected", x, 1, 0, 0);
        x.connect();
        Check.fill(x, 1, 1);
        x.pass(100);
        dueState(22, "while connected", x, 2, 0, 0);
    }

    /**
     * Promise 22, repeats and drops as the 29th to 31st line: told lines are queued like others,
     * and lost like others.
     */
    private static void promise22ToldLines() {
        LogSpooler x = withQueued(28);
        x.setRate(1, 1);
        x.message(5, 0, 0, 0, 1);
        x.message(5, 0, 0, 0, 1);
        x.message(5, 0, 0, 1, 1);
        dueState(22, "with repeats as the 30th", x, 30, 0, 0);
        x.pass(1);
        x.message(5, 0, 0, 2, 1);
        dueState(22, "with drops and a message as the 31st and 32nd", x, 30, 0, 2);
        x.connect();
        for (int i = 0; i < 29; i++) {
            x.send();
            x.acknowledge();
        }
        Check.due(22, "the 30th", 60001, x.send());
    }

    /** Promise 23, lines in flight: 0 to 5 as they are sent, 0 after the connection is lost. */
    private static void promise23NoneToFive() {
        LogSpooler x = withFlying(5, 0);
        Check.due(23, "inFlight of none sent", 0, x.inFlight());
        for (int sent = 1; sent <= 5; sent++) {
            x.send();
            Check.due(23, "inFlight of " + sent + " sent", sent, x.inFlight());
        }
        x.disconnect();
        Check.due(23, "inFlight after a lost connection", 0, x.inFlight());
    }

    /**
     * Promise 24, "how many lines were acknowledged": none by send or a lost connection, one by
     * each acknowledge, beyond the 30 that can wait.
     */
    private static void promise24Acknowledged() {
        LogSpooler x = withFlying(30, 2);
        Check.due(24, "acknowledged of two sent", 0, x.acknowledged());
        x.disconnect();
        Check.due(24, "acknowledged after a lost connection", 0, x.acknowledged());
        x.connect();
        for (int line = 0; line < 40; line++) {
            x.send();
            x.acknowledge();
            Check.fill(x, 1, 1);
            Check.due(24, "acknowledged", line + 1, x.acknowledged());
        }
        dueState(24, "after 40", x, 30, 0, 0);
    }

    /** Promise 25, "as the queue was full": with 29 none is lost, with 30 one, and each one after it. */
    private static void promise25QueueFull() {
        LogSpooler x = withQueued(30);
        Check.due(25, "lost with 30", 0, x.lost());
        for (int more = 1; more <= 3; more++) {
            Check.fill(x, 1, 1);
            Check.due(25, "lost with " + more + " more", more, x.lost());
            Check.due(25, "queued with " + more + " more", 30, x.queued());
        }
    }

    /** Promise 25 with "fewer than 30 are queued or in flight, together": 24 and 5, 25 and 5; 29 and 1. */
    private static void promise25QueuedAndInFlightTogether() {
        LogSpooler x = withFlying(29, 5);
        dueState(25, "of 24 queued and 5 in flight", x, 24, 5, 0);
        Check.fill(x, 1, 1);
        dueState(25, "of 25 queued and 5 in flight", x, 25, 5, 0);
        Check.fill(x, 1, 1);
        dueState(25, "of one more", x, 25, 5, 1);
        LogSpooler y = withFlying(30, 1);
        Check.fill(y, 1, 1);
        dueState(25, "of one more than 29 and 1", y, 29, 1, 1);
    }

    /**
     * Promise 25, room in a full queue: not by send, connect or a lost connection, but by
     * acknowledge, for one line.
     */
    private static void promise25RoomByAcknowledgingAlone() {
        LogSpooler x = withQueued(30);
        x.connect();
        Check.fill(x, 1, 1);
        Check.due(25, "lost after connect", 1, x.lost());
        x.send();
        Check.fill(x, 1, 1);
        Check.due(25, "lost after send", 2, x.lost());
        x.acknowledge();
        Check.fill(x, 1, 1);
        Check.due(25, "lost after acknowledge", 2, x.lost());
        Check.fill(x, 1, 1);
        Check.due(25, "lost after one line more", 3, x.lost());
        x.disconnect();
        Check.fill(x, 1, 1);
        Check.due(25, "lost after disconnect", 4, x.lost());
    }

    /**
     * Promise 25, "otherwise they are lost": a lost line never comes again, and the next that fits
     * follows the ones before.
     */
    private static void promise25LostForGood() {
        LogSpooler x = withQueued(31);
        x.connect();
        x.send();
        x.acknowledge();
        Check.fill(x, 1, 1);
        for (int line = 1; line < 30; line++) {
            Check.due(25, "send", line, x.send());
            x.acknowledge();
        }
        Check.due(25, "send, 30 being lost", 31, x.send());
        dueState(25, "after all", x, 0, 1, 1);
    }

    /** Promise 25, a full queue and a file beside it: the line is lost for FORWARD alone. */
    private static void promise25FilesAreNotLost() {
        LogSpooler x = withQueued(30);
        x.setRule(1, 255, 7, LogSpooler.NONE, 0);
        Check.fill(x, 1, 1);
        Check.due(25, "lost", 1, x.lost());
        Check.dueLines(25, "[30]", x, 0, LogSpooler.NONE);
        Check.due(29, "targets, FORWARD too", 1 + 16, x.targetsOf(30));
    }

    /** Promise 25, all 400 messages of an object to FORWARD: 30 wait, 370 are lost. */
    private static void promise25LongestRun() {
        LogSpooler x = Check.withTokens(Check.allTo(LogSpooler.FORWARD));
        for (int i = 0; i < 400; i++) {
            x.message(i % 6, 0, 0, i % 100, 1);
            if (i % 6 == 5) {
                x.pass(1);
            }
        }
        dueState(25, "after 400", x, 30, 0, 370);
        Check.due(28, "count(ROUTED)", 400, x.count(LogSpooler.ROUTED));
    }
}
