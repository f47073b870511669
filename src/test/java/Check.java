/** What the tests share: each check names the promise that it holds the class to. */
final class Check {
    interface Call {
        long answer();
    }

    static final Class<?> INDEX = IndexOutOfBoundsException.class;
    static final Class<?> ARGUMENT = IllegalArgumentException.class;
    static final Class<?> STATE = IllegalStateException.class;

    private static int right = 0;
    private static int wrong = 0;

    private Check() {
    }

    static void due(int promise, String what, long want, long got) {
        if (want == got) {
            right++;
        } else {
            fault("promise " + promise + ": " + what + " answered " + got + ", due is " + want);
        }
    }

    /** The exception is of just this class: what the machine throws is often of a class below it. */
    static void refused(int promise, String what, Class<?> want, Call call) {
        String got;
        try {
            got = "answered " + call.answer();
        } catch (Throwable thrown) {
            if (thrown.getClass() == want) {
                right++;
                return;
            }
            got = "threw " + thrown;
        }
        fault("promise " + promise + ": " + what + " " + got + ", due is " + want.getName());
    }

    /** The call is refused, and nothing that can be looked at is another after it. */
    static void refusedAndUnchanged(int promise, String what, Class<?> want, LogSpooler x, Call call) {
        String before = picture(x);
        refused(promise, what, want, call);
        if (!picture(x).equals(before)) {
            fault("promise " + promise + ": " + what + " changed " + before + " to " + picture(x));
        }
    }

    static void fault(String text) {
        wrong++;
        System.out.println(text);
    }

    /** All that the methods tell of an object. */
    static String picture(LogSpooler x) {
        StringBuilder text = new StringBuilder();
        text.append("time ").append(x.time());
        for (int sender = 0; sender < 6; sender++) {
            text.append(" sender ").append(x.tokens(sender)).append('/').append(x.repeats(sender))
                    .append('/').append(x.drops(sender));
        }
        for (int file = 0; file < 4; file++) {
            text.append(" file ").append(x.size(file));
            for (int generation = -1; generation < x.generations(file); generation++) {
                text.append(' ').append(linesOf(x, file, generation));
            }
        }
        text.append(" forwarder ").append(x.queued()).append('/').append(x.inFlight())
                .append('/').append(x.acknowledged()).append('/').append(x.lost()).append(" ledger");
        for (int message = 0; message < x.messages(); message++) {
            text.append(' ').append(x.fateOf(message)).append('/').append(x.targetsOf(message));
        }
        return text.toString();
    }

    static String linesOf(LogSpooler x, int file, int generation) {
        StringBuilder text = new StringBuilder("[");
        for (int place = 0; place < x.lines(file, generation); place++) {
            text.append(place == 0 ? "" : " ").append(x.line(file, generation, place));
        }
        return text.append(']').toString();
    }

    static void dueLines(int promise, String want, LogSpooler x, int file, int generation) {
        String got = linesOf(x, file, generation);
        if (got.equals(want)) {
            right++;
        } else {
            fault("promise " + promise + ": file " + file + ", generation " + generation
                    + " has " + got + ", due is " + want);
        }
    }

    /** A new object in which every line goes to one target. */
    static LogSpooler allTo(int target) {
        LogSpooler x = new LogSpooler();
        x.setRule(0, 255, 7, LogSpooler.NONE, target);
        return x;
    }

    /** The same object at time 50, each sender of it with 50 tokens, and one more in each second. */
    static LogSpooler withTokens(LogSpooler x) {
        x.setRate(50, 1);
        x.pass(50);
        return x;
    }

    /** So many messages of one length come, from senders that have 50 tokens each. */
    static void fill(LogSpooler x, int messages, int length) {
        for (int i = 0; i < messages; i++) {
            int number = x.messages();
            x.message(number / 50 % 6, 0, 0, number % 100, length);
        }
    }

    static void end(String name) {
        System.out.println(name + ": " + right + " checks right, " + wrong + " wrong");
        System.exit(wrong == 0 ? 0 : 1);
    }
}
