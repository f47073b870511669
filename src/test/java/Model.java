import java.util.ArrayList;
import java.util.Arrays;
import java.util.Comparator;
import java.util.List;

/**
 * The document once more, in lists and apart from the class: what it answers is what is due.
 * It keeps each line and each generation as a list of its own, and leaves nothing to arithmetic.
 */
final class Model {
    private record Text(int facility, int severity, int text, int length) {
    }

    private record Line(int number, int length, int came) {
    }

    private record Setting(int facilities, int severity, int sender, int target) {
    }

    private static final class From {
        int tokens = 5;
        Text last = null;
        int drops = 0;
        final List<Integer> repeatTimes = new ArrayList<>();
    }

    private static final class Store {
        List<Line> current = new ArrayList<>();
        final List<List<Line>> older = new ArrayList<>();
        int most = 1000;
        int age = 0;
        int kept = 2;

        void trim() {
            while (older.size() > kept) {
                older.remove(older.size() - 1);
            }
        }

        void turn() {
            older.add(0, current);
            current = new ArrayList<>();
            trim();
        }

        int sum() {
            return current.stream().mapToInt(Line::length).sum();
        }

        List<Line> part(int generation) {
            if (generation == -1) {
                return current;
            }
            if (generation < 0 || generation >= older.size()) {
                throw new IndexOutOfBoundsException();
            }
            return older.get(generation);
        }
    }

    private int time = 0;
    private int burst = 5;
    private int tokenTime = 10;
    private int fold = 30;
    private int turns = 0;
    private boolean connected = false;
    private int acknowledged = 0;
    private int lost = 0;
    private final From[] senders = new From[6];
    private final Setting[] rules = new Setting[6];
    private final Store[] files = new Store[4];
    private List<Integer> queue = new ArrayList<>();
    private final List<Integer> flight = new ArrayList<>();
    private final List<Integer> fates = new ArrayList<>();
    private final List<Integer> targets = new ArrayList<>();

    Model() {
        Arrays.setAll(senders, i -> new From());
        Arrays.setAll(files, i -> new Store());
    }

    private static void index(boolean stands) {
        if (!stands) {
            throw new IndexOutOfBoundsException();
        }
    }

    private static void argument(int value, int least, int most) {
        if (value < least || value > most) {
            throw new IllegalArgumentException();
        }
    }

    private static void state(boolean stands) {
        if (!stands) {
            throw new IllegalStateException();
        }
    }

    private From sender(int sender) {
        index(sender >= 0 && sender <= 5);
        return senders[sender];
    }

    private Store file(int file) {
        index(file >= 0 && file <= 3);
        return files[file];
    }

    /** Answers the call of this name, a boolean as 1 or 0. */
    int answer(String name, int[] a) {
        switch (name) {
            case "setRate": return setRate(a[0], a[1]);
            case "setFold": return setFold(a[0]);
            case "setRule": return setRule(a);
            case "removeRule": return removeRule(a[0]);
            case "setFile": return setFile(a[0], a[1], a[2], a[3]);
            case "message": return message(a[0], new Text(a[1], a[2], a[3], a[4]));
            case "pass": return pass(a[0]);
            case "rotate": return rotate(a[0]);
            case "connect": return connect();
            case "disconnect": return disconnect();
            case "send": return send();
            case "acknowledge": return acknowledge();
            default: return look(name, a);
        }
    }

    private int look(String name, int[] a) {
        switch (name) {
            case "time": return time;
            case "tokens": return sender(a[0]).tokens;
            case "repeats": return sender(a[0]).repeatTimes.size();
            case "drops": return sender(a[0]).drops;
            case "size": return file(a[0]).sum();
            case "lines": return file(a[0]).part(a[1]).size();
            case "line": return line(file(a[0]).part(a[1]), a[2]);
            case "generations": return file(a[0]).older.size();
            case "queued": return queue.size();
            case "inFlight": return flight.size();
            case "acknowledged": return acknowledged;
            case "lost": return lost;
            case "messages": return fates.size();
            case "fateOf": return entry(fates, a[0]);
            case "count": return count(a[0]);
            case "targetsOf": return entry(targets, a[0]);
            default: throw new AssertionError(name);
        }
    }

    private static int line(List<Line> part, int place) {
        index(place >= 0 && place < part.size());
        return part.get(place).number();
    }

    private static int entry(List<Integer> list, int message) {
        index(message >= 0 && message < list.size());
        return list.get(message);
    }

    private int count(int fate) {
        index(fate >= 0 && fate <= 3);
        return (int) fates.stream().filter(f -> f == fate).count();
    }

    private int setRate(int newBurst, int seconds) {
        argument(newBurst, 1, 50);
        argument(seconds, 1, 60);
        int before = burst;
        burst = newBurst;
        tokenTime = seconds;
        for (From from : senders) {
            from.tokens = Math.min(from.tokens, burst);
        }
        return before;
    }

    private int setFold(int seconds) {
        argument(seconds, 0, 100);
        int before = fold;
        fold = seconds;
        return before;
    }

    private int setRule(int[] a) {
        index(a[0] >= 0 && a[0] <= 5);
        index(a[3] >= -1 && a[3] <= 5);
        argument(a[1], 0, 255);
        argument(a[2], 0, 7);
        argument(a[4], 0, 4);
        rules[a[0]] = new Setting(a[1], a[2], a[3], a[4]);
        int set = 0;
        for (Setting rule : rules) {
            set += rule == null ? 0 : 1;
        }
        return set;
    }

    private int removeRule(int rule) {
        index(rule >= 0 && rule <= 5);
        int before = rules[rule] == null ? 0 : 1;
        rules[rule] = null;
        return before;
    }

    private int setFile(int file, int size, int age, int kept) {
        Store store = file(file);
        argument(size, 200, 5000);
        argument(age, 0, 1000);
        argument(kept, 0, 5);
        store.most = size;
        store.age = age;
        store.kept = kept;
        store.trim();
        return store.sum();
    }

    private int enter(int fate, int targetSet) {
        fates.add(fate);
        targets.add(targetSet);
        return fate;
    }

    private int message(int sender, Text text) {
        From from = sender(sender);
        argument(text.facility(), 0, 7);
        argument(text.severity(), 0, 7);
        argument(text.text(), 0, 99);
        argument(text.length(), 1, 200);
        state(fates.size() < 400);
        if (fold > 0 && text.equals(from.last)) {
            from.repeatTimes.add(time);
            return enter(0, 0);
        }
        if (!from.repeatTimes.isEmpty()) {
            tellRepeats(sender);
        }
        if (from.tokens == 0) {
            from.drops++;
            return enter(1, 0);
        }
        from.tokens--;
        if (from.drops > 0) {
            bring(100000 * (sender + 1) + from.drops, sender, 5, 4, 20);
            from.drops = 0;
        }
        from.last = text;
        int set = bring(fates.size(), sender, text.facility(), text.severity(), text.length());
        return enter(set == 0 ? 2 : 3, set);
    }

    private void tellRepeats(int sender) {
        From from = senders[sender];
        bring(10000 * (sender + 1) + from.repeatTimes.size(), sender,
                from.last.facility(), from.last.severity(), 15);
        from.repeatTimes.clear();
    }

    private int bring(int number, int sender, int facility, int severity, int length) {
        int set = 0;
        for (int target = 0; target <= 4; target++) {
            boolean goes = false;
            for (Setting rule : rules) {
                goes |= rule != null && rule.target() == target && severity <= rule.severity()
                        && (rule.facilities() & (int) Math.pow(2, facility)) != 0
                        && (rule.sender() == -1 || rule.sender() == sender);
            }
            if (goes) {
                set += (int) Math.pow(2, target);
                arrive(target, number, length);
            }
        }
        return set;
    }

    private void arrive(int target, int number, int length) {
        if (target == 4) {
            if (queue.size() + flight.size() < 30) {
                queue.add(number);
            } else {
                lost++;
            }
            return;
        }
        Store store = files[target];
        if (!store.current.isEmpty() && store.sum() + length > store.most) {
            store.turn();
            turns++;
        }
        store.current.add(new Line(number, length, time));
    }

    private int pass(int seconds) {
        argument(seconds, 1, 100);
        turns = 0;
        for (int i = 0; i < seconds; i++) {
            second();
        }
        return turns;
    }

    private void second() {
        time++;
        for (From from : senders) {
            if (time % tokenTime == 0 && from.tokens < burst) {
                from.tokens++;
            }
        }
        List<Integer> due = new ArrayList<>();
        for (int sender = 0; sender < 6; sender++) {
            List<Integer> times = senders[sender].repeatTimes;
            if (!times.isEmpty() && time - times.get(0) >= fold) {
                due.add(sender);
            }
        }
        // The sort is stable: of several with one time the lower number stays ahead.
        due.sort(Comparator.comparing(sender -> senders[sender].repeatTimes.get(0)));
        for (int sender : due) {
            tellRepeats(sender);
        }
        for (Store store : files) {
            if (store.age > 0 && !store.current.isEmpty()
                    && time - store.current.get(0).came() >= store.age) {
                store.turn();
                turns++;
            }
        }
    }

    private int rotate(int file) {
        Store store = file(file);
        state(!store.current.isEmpty());
        store.turn();
        return store.older.size();
    }

    private int connect() {
        state(!connected);
        connected = true;
        return queue.size();
    }

    private int disconnect() {
        state(connected);
        connected = false;
        int flying = flight.size();
        List<Integer> all = new ArrayList<>(flight);
        all.addAll(queue);
        queue = all;
        flight.clear();
        return flying;
    }

    private int send() {
        state(connected && !queue.isEmpty() && flight.size() < 5);
        int line = queue.remove(0);
        flight.add(line);
        return line;
    }

    private int acknowledge() {
        state(!flight.isEmpty());
        acknowledged++;
        return flight.remove(0);
    }
}
