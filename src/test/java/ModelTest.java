import java.util.Arrays;

/**
 * Long runs of calls, the same ones each time, in which the class answers as the model does and
 * throws just what the model throws. Each run stays within the 512 calls of the document; a last
 * one goes far beyond them, and there only what a call may throw is looked at.
 */
public final class ModelTest {
    private static final int RUNS = 4000;
    private static final int CALLS = 512;
    private static final String[] NAMES = {
        "setRate", "setFold", "setRule", "removeRule", "setFile", "message", "pass", "rotate", "connect",
        "disconnect", "send", "acknowledge", "time", "tokens", "repeats", "drops", "size", "lines", "line",
        "generations", "queued", "inFlight", "acknowledged", "lost", "messages", "fateOf", "count", "targetsOf"};
    private static final int[] WILD = {Integer.MIN_VALUE, Integer.MIN_VALUE + 1, -2, -1, 0, 1, 4, 5, 6, 7, 8, 60, 61,
        99, 100, 101, 199, 200, 201, 255, 256, 399, 400, 5000, 5001, Integer.MAX_VALUE - 1, Integer.MAX_VALUE};

    private static final int[] NOTHING = {};

    private static long seed = 20261119;
    private static int[] weights;
    private static int senders;
    private static int texts;
    private static int longest;
    private static int wildness;
    private static int longestPass;

    public static void main(String[] args) {
        for (int run = 0; run < RUNS; run++) {
            chooseManner();
            if (!sameAsModel(run)) {
                break;
            }
        }
        beyondTheLastCall();
        Check.end("ModelTest");
    }

    private static int below(int bound) {
        seed = seed * 6364136223846793005L + 1442695040888963407L;
        return (int) Math.floorMod(seed >>> 33, (long) bound);
    }

    private static int between(int least, int most) {
        return least + below(most - least + 1);
    }

    /** Runs differ in what they call most, and in how much of the ranges they use. */
    private static void chooseManner() {
        weights = new int[NAMES.length];
        for (int i = 0; i < weights.length; i++) {
            weights[i] = between(1, 4);
        }
        int[] kinds = {0, 0, 4, 20, 100, 700};
        weights[5] = kinds[below(kinds.length)] + 10;
        weights[6] = between(1, 30);
        weights[10] = between(1, 20);
        weights[11] = between(1, 20);
        weights[18] = between(1, 30);
        senders = between(1, 6);
        texts = between(1, 3);
        longest = below(2) == 0 ? 200 : 20;
        wildness = below(3) == 0 ? 10 : 100;
        longestPass = below(2) == 0 ? 100 : 4;
    }

    private static int chooseCall() {
        int left = below(Arrays.stream(weights).sum());
        int call = 0;
        while (left >= weights[call]) {
            left -= weights[call];
            call++;
        }
        return call;
    }

    private static int[] arguments(String name, int messages) {
        switch (name) {
            case "setRate": return new int[] {between(1, 50), between(1, below(2) == 0 ? 60 : 3)};
            case "setFold": return new int[] {between(0, below(2) == 0 ? 100 : 5)};
            case "setRule": return new int[] {below(6), below(2) == 0 ? 255 : below(256), between(2, 7),
                between(-1, senders - 1), below(5)};
            case "removeRule": return new int[] {below(6)};
            case "setFile": return new int[] {below(4), between(200, below(2) == 0 ? 5000 : 400),
                below(2) * between(0, below(2) == 0 ? 1000 : 10), below(6)};
            case "message": return new int[] {below(senders), below(texts), below(texts), below(texts),
                below(2) == 0 ? longest : between(1, longest)};
            case "pass": return new int[] {between(1, longestPass)};
            case "lines": return new int[] {below(4), between(-1, 5)};
            case "line": return new int[] {below(4), between(-1, 5), below(3) == 0 ? below(40) : below(4)};
            case "fateOf": case "targetsOf": return new int[] {below(messages + 1)};
            case "rotate": case "size": case "generations": case "count": return new int[] {below(4)};
            case "tokens": case "repeats": case "drops": return new int[] {below(6)};
            default: return new int[0];
        }
    }

    private static int[] maybeWild(int[] a) {
        if (a.length > 0 && below(wildness) == 0) {
            a[below(a.length)] = WILD[below(WILD.length)];
            if (below(2) == 0) {
                a[below(a.length)] = WILD[below(WILD.length)];
            }
        }
        return a;
    }

    private static boolean sameAsModel(int run) {
        LogSpooler x = new LogSpooler();
        Model model = new Model();
        StringBuilder told = new StringBuilder();
        // The first call of all lets most runs have a rule, so that lines go somewhere.
        int[] first = {0, 255, 7, -1, below(5)};
        for (int i = 0; i < CALLS; i++) {
            String name = i == 0 ? "setRule" : NAMES[chooseCall()];
            int[] a = i == 0 ? first : maybeWild(arguments(name, model.answer("messages", NOTHING)));
            String want = outcome(() -> model.answer(name, a));
            String got = outcome(() -> answer(x, name, a));
            told.append(name).append(Arrays.toString(a)).append(" = ").append(want).append('\n');
            if (!want.equals(got)) {
                Check.fault(told + "run " + run + ": the last call answered " + got);
                return false;
            }
        }
        Check.due(0, "run " + run, 0, 0);
        return true;
    }

    private static String outcome(Check.Call call) {
        try {
            return Long.toString(call.answer());
        } catch (RuntimeException thrown) {
            return thrown.getClass().getName();
        }
    }

    private static void beyondTheLastCall() {
        chooseManner();
        weights[5] = 200;
        wildness = 5;
        LogSpooler x = new LogSpooler();
        x.setRule(0, 255, 7, -1, 4);
        x.setRule(1, 255, 7, -1, 0);
        for (int i = 0; i < 50000; i++) {
            String name = NAMES[chooseCall()];
            int[] a = maybeWild(arguments(name, x.messages()));
            String got = outcome(() -> answer(x, name, a));
            if (got.contains(".") && !got.equals(Check.INDEX.getName()) && !got.equals(Check.ARGUMENT.getName())
                    && !got.equals(Check.STATE.getName())) {
                Check.fault("call " + i + " of a long run, " + name + Arrays.toString(a) + ", threw " + got);
            }
        }
    }

    private static int answer(LogSpooler x, String name, int[] a) {
        switch (name) {
            case "setRate": return x.setRate(a[0], a[1]);
            case "setFold": return x.setFold(a[0]);
            case "setRule": return x.setRule(a[0], a[1], a[2], a[3], a[4]);
            case "removeRule": return x.removeRule(a[0]) ? 1 : 0;
            case "setFile": return x.setFile(a[0], a[1], a[2], a[3]);
            case "message": return x.message(a[0], a[1], a[2], a[3], a[4]);
            case "pass": return x.pass(a[0]);
            case "rotate": return x.rotate(a[0]);
            case "connect": return x.connect();
            case "disconnect": return x.disconnect();
            case "send": return x.send();
            case "acknowledge": return x.acknowledge();
            default: return look(x, name, a);
        }
    }

    private static int look(LogSpooler x, String name, int[] a) {
        switch (name) {
            case "time": return x.time();
            case "tokens": return x.tokens(a[0]);
            case "repeats": return x.repeats(a[0]);
            case "drops": return x.drops(a[0]);
            case "size": return x.size(a[0]);
            case "lines": return x.lines(a[0], a[1]);
            case "line": return x.line(a[0], a[1], a[2]);
            case "generations": return x.generations(a[0]);
            case "queued": return x.queued();
            case "inFlight": return x.inFlight();
            case "acknowledged": return x.acknowledged();
            case "lost": return x.lost();
            case "messages": return x.messages();
            case "fateOf": return x.fateOf(a[0]);
            case "count": return x.count(a[0]);
            case "targetsOf": return x.targetsOf(a[0]);
            default: throw new AssertionError(name);
        }
    }
}
