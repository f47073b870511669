/** Promises 10 to 13 and 22 to 25: the forwarder. */
public final class ForwarderTest {
    public static void main(String[] args) {
        connection();
        sending();
        acknowledging();
        lostConnection();
        fullQueue();
        flyingCountsAsFull();
        allKindsOfLines();
        Check.end("ForwarderTest");
    }

    /** A new object with so many lines queued, numbered from 0. */
    private static LogSpooler withQueued(int lines) {
        LogSpooler x = Check.allTo(LogSpooler.FORWARD);
        x.setRate(50, 1);
        x.pass(50);
        for (int i = 0; i < lines; i++) {
            x.message(i / 40, 0, 0, i % 100, 1);
        }
        return x;
    }

    private static void connection() {
        LogSpooler x = withQueued(3);
        Check.refusedAndUnchanged(11, "disconnect while not connected", Check.STATE, x, x::disconnect);
        Check.due(10, "connect", 3, x.connect());
        Check.refusedAndUnchanged(10, "connect while connected", Check.STATE, x, x::connect);
        Check.due(11, "disconnect with none in flight", 0, x.disconnect());
        Check.refusedAndUnchanged(11, "disconnect again", Check.STATE, x, x::disconnect);
        Check.due(10, "connect again", 3, x.connect());
        Check.due(10, "connect of an empty one", 0, withQueued(0).connect());
    }

    private static void sending() {
        LogSpooler x = withQueued(8);
        Check.refusedAndUnchanged(12, "send while not connected", Check.STATE, x, x::send);
        x.connect();
        for (int i = 0; i < 5; i++) {
            Check.due(12, "send", i, x.send());
            Check.due(22, "queued", 7 - i, x.queued());
            Check.due(23, "inFlight", i + 1, x.inFlight());
        }
        Check.refusedAndUnchanged(12, "send with 5 in flight", Check.STATE, x, x::send);
        x.acknowledge();
        Check.due(12, "send after one was acknowledged", 5, x.send());
        Check.refusedAndUnchanged(12, "send with 5 in flight", Check.STATE, x, x::send);
        LogSpooler y = withQueued(1);
        y.connect();
        y.send();
        Check.refusedAndUnchanged(12, "send with none queued", Check.STATE, y, y::send);
    }

    private static void acknowledging() {
        LogSpooler x = withQueued(4);
        Check.refusedAndUnchanged(13, "acknowledge while not connected", Check.STATE, x, x::acknowledge);
        x.connect();
        Check.refusedAndUnchanged(13, "acknowledge with none in flight", Check.STATE, x, x::acknowledge);
        x.send();
        x.send();
        x.send();
        Check.due(13, "acknowledge", 0, x.acknowledge());
        Check.due(24, "acknowledged", 1, x.acknowledged());
        Check.due(13, "acknowledge", 1, x.acknowledge());
        Check.due(23, "inFlight", 1, x.inFlight());
        Check.due(12, "send", 3, x.send());
        Check.due(13, "acknowledge", 2, x.acknowledge());
        Check.due(13, "acknowledge", 3, x.acknowledge());
        Check.due(24, "acknowledged", 4, x.acknowledged());
        Check.due(23, "inFlight", 0, x.inFlight());
        Check.refusedAndUnchanged(13, "acknowledge with none in flight", Check.STATE, x, x::acknowledge);
    }

    private static void lostConnection() {
        LogSpooler x = withQueued(6);
        x.connect();
        x.send();
        x.send();
        x.send();
        x.acknowledge();
        x.message(5, 0, 0, 9, 1);
        Check.due(11, "disconnect", 2, x.disconnect());
        Check.due(22, "queued", 6, x.queued());
        Check.due(23, "inFlight", 0, x.inFlight());
        Check.due(24, "acknowledged", 1, x.acknowledged());
        Check.refused(13, "acknowledge after the connection was lost", Check.STATE, x::acknowledge);
        x.message(5, 0, 0, 10, 1);
        Check.due(10, "connect", 7, x.connect());
        for (int line = 1; line < 8; line++) {
            Check.due(12, "send, those from the flight first", line, x.send());
            Check.due(13, "acknowledge", line, x.acknowledge());
        }
        Check.due(22, "queued", 0, x.queued());
    }

    private static void fullQueue() {
        LogSpooler x = withQueued(29);
        Check.due(22, "queued", 29, x.queued());
        Check.due(25, "lost", 0, x.lost());
        x.message(5, 0, 0, 0, 1);
        Check.due(22, "queued, full", 30, x.queued());
        Check.due(25, "lost", 0, x.lost());
        Check.due(25, "message that is lost", LogSpooler.ROUTED, x.message(5, 0, 0, 1, 1));
        Check.due(22, "queued, full", 30, x.queued());
        Check.due(25, "lost", 1, x.lost());
        Check.due(29, "targets, though it was lost", 16, x.targetsOf(30));
        x.connect();
        for (int i = 0; i < 30; i++) {
            Check.due(12, "send", i, x.send());
            x.acknowledge();
        }
        Check.due(24, "acknowledged", 30, x.acknowledged());
        Check.due(25, "lost", 1, x.lost());
        x.message(5, 0, 0, 2, 1);
        Check.due(12, "send of what came later", 31, x.send());
    }

    private static void flyingCountsAsFull() {
        LogSpooler x = withQueued(30);
        x.connect();
        x.send();
        x.send();
        x.message(5, 0, 0, 0, 1);
        Check.due(25, "lost, 28 queued and 2 in flight", 1, x.lost());
        Check.due(22, "queued", 28, x.queued());
        x.acknowledge();
        x.message(5, 0, 0, 1, 1);
        Check.due(25, "lost, 28 queued and 1 in flight", 1, x.lost());
        Check.due(22, "queued", 29, x.queued());
        x.message(5, 0, 0, 2, 1);
        Check.due(25, "lost", 2, x.lost());
    }

    private static void allKindsOfLines() {
        LogSpooler x = Check.allTo(LogSpooler.FORWARD);
        x.setRate(1, 1);
        x.message(5, 1, 1, 1, 1);
        x.message(5, 1, 1, 1, 1);
        x.message(5, 1, 1, 2, 1);
        x.message(5, 1, 1, 3, 1);
        x.pass(1);
        x.message(5, 1, 1, 4, 1);
        x.connect();
        Check.due(12, "send of a message", 0, x.send());
        Check.due(12, "send of repeats", 60001, x.send());
        Check.due(12, "send of drops", 600002, x.send());
        Check.due(12, "send of a message", 4, x.send());
        Check.due(22, "queued", 0, x.queued());
    }
}
