/**
 * A spooler for log messages: it folds repeats, limits senders by tokens, and routes lines to
 * files that are rotated and to a forwarder. A ledger has the fate of every message.
 */
public final class LogSpooler {
    public static final int NONE = -1;
    public static final int FORWARD = 4;
    public static final int FOLDED = 0, LIMITED = 1, UNROUTED = 2, ROUTED = 3;

    private static final int SENDERS = 6;
    private static final int RULES = 6;
    private static final int FILES = 4;
    private static final int MOST_KEPT = 5;
    private static final int MOST_WAITING = 30;
    private static final int MOST_IN_FLIGHT = 5;
    private static final int MOST_MESSAGES = 400;

    // A line of repeats takes a folded message, a line of drops a limited one, and neither of
    // these makes a line of its own: so no target ever gets more lines than messages come.
    private static final int MOST_LINES = MOST_MESSAGES;

    private static final int REPEATS_MARK = 10000;
    private static final int REPEATS_LENGTH = 15;
    private static final int DROPS_MARK = 100000;
    private static final int DROPS_FACILITY = 5;
    private static final int DROPS_SEVERITY = 4;
    private static final int DROPS_LENGTH = 20;

    private final Sender[] senders = new Sender[SENDERS];
    private final Rule[] rules = new Rule[RULES];
    private final LogFile[] files = new LogFile[FILES];
    private final Forwarder forwarder = new Forwarder();
    private final Ledger ledger = new Ledger();
    private int now = 0;
    private int burst = 5;
    private int tokenTime = 10;
    private int foldTime = 30;

    public LogSpooler() {
        for (int i = 0; i < SENDERS; i++) {
            senders[i] = new Sender(i, burst);
        }
        for (int i = 0; i < RULES; i++) {
            rules[i] = new Rule();
        }
        for (int i = 0; i < FILES; i++) {
            files[i] = new LogFile();
        }
    }

    // ---- what is set

    public int setRate(int burst, int seconds) throws IllegalArgumentException {
        if (!isWithin(burst, 1, 50) || !isWithin(seconds, 1, 60)) {
            throw new IllegalArgumentException("burst or seconds is out of range");
        }
        int before = this.burst;
        this.burst = burst;
        tokenTime = seconds;
        for (int i = 0; i < SENDERS; i++) {
            senders[i].capTokens(burst);
        }
        return before;
    }

    public int setFold(int seconds) throws IllegalArgumentException {
        if (!isWithin(seconds, 0, 100)) {
            throw new IllegalArgumentException("seconds is out of range");
        }
        int before = foldTime;
        foldTime = seconds;
        return before;
    }

    public int setRule(int rule, int facilities, int severity, int sender, int target)
            throws IndexOutOfBoundsException, IllegalArgumentException {
        Rule set = ruleAt(rule);
        if (!isWithin(sender, NONE, SENDERS - 1)) {
            throw new IndexOutOfBoundsException("no such sender, nor any");
        }
        if (!isWithin(facilities, 0, 255) || !isWithin(severity, 0, 7) || !isWithin(target, 0, FORWARD)) {
            throw new IllegalArgumentException("facilities, severity or target is out of range");
        }
        set.put(facilities, severity, sender, target);
        return rulesThatAreSet();
    }

    public boolean removeRule(int rule) throws IndexOutOfBoundsException {
        Rule removed = ruleAt(rule);
        boolean before = removed.isSet;
        removed.isSet = false;
        return before;
    }

    public int setFile(int file, int size, int age, int kept)
            throws IndexOutOfBoundsException, IllegalArgumentException {
        LogFile set = fileAt(file);
        if (!isWithin(size, 200, 5000) || !isWithin(age, 0, 1000) || !isWithin(kept, 0, MOST_KEPT)) {
            throw new IllegalArgumentException("size, age or kept is out of range");
        }
        set.limit(size, age, kept);
        return set.sumOfLengths;
    }

    // ---- messages and seconds

    public int message(int sender, int facility, int severity, int text, int length)
            throws IndexOutOfBoundsException, IllegalArgumentException, IllegalStateException {
        Sender from = senderAt(sender);
        if (!isWithin(facility, 0, 7) || !isWithin(severity, 0, 7)
                || !isWithin(text, 0, 99) || !isWithin(length, 1, 200)) {
            throw new IllegalArgumentException("facility, severity, text or length is out of range");
        }
        if (ledger.isFull()) {
            throw new IllegalStateException("no more messages can come");
        }
        if (foldTime != 0 && from.lastIs(facility, severity, text, length)) {
            from.countRepeat(now);
            return ledger.enter(FOLDED, 0);
        }
        tellRepeats(from);
        if (from.tokensLeft == 0) {
            from.untoldDrops++;
            return ledger.enter(LIMITED, 0);
        }
        from.tokensLeft--;
        tellDrops(from);
        from.setLast(facility, severity, text, length);
        int targets = route(ledger.entries, sender, facility, severity, length);
        return ledger.enter(targets == 0 ? UNROUTED : ROUTED, targets);
    }

    public int pass(int seconds) throws IllegalArgumentException {
        if (!isWithin(seconds, 1, 100)) {
            throw new IllegalArgumentException("seconds is out of range");
        }
        int before = rotationsOfAllFiles();
        for (int i = 0; i < seconds; i++) {
            passOneSecond();
        }
        return rotationsOfAllFiles() - before;
    }

    public int rotate(int file) throws IndexOutOfBoundsException, IllegalStateException {
        LogFile turned = fileAt(file);
        if (turned.isEmpty()) {
            throw new IllegalStateException("the file has no lines");
        }
        turned.turnOver();
        return turned.olderOnes;
    }

    // ---- the forwarder

    public int connect() throws IllegalStateException {
        if (forwarder.isConnected) {
            throw new IllegalStateException("it is connected");
        }
        forwarder.isConnected = true;
        return forwarder.waiting();
    }

    public int disconnect() throws IllegalStateException {
        if (!forwarder.isConnected) {
            throw new IllegalStateException("it is not connected");
        }
        int flying = forwarder.flying();
        forwarder.loseConnection();
        return flying;
    }

    public int send() throws IllegalStateException {
        if (!forwarder.canSend()) {
            throw new IllegalStateException("it is not connected, none is queued, or 5 are in flight");
        }
        return forwarder.sendFirst();
    }

    public int acknowledge() throws IllegalStateException {
        if (forwarder.flying() == 0) {
            throw new IllegalStateException("none is in flight");
        }
        return forwarder.acknowledgeFirst();
    }

    // ---- senders, files, the forwarder as they are

    public int time() {
        return now;
    }

    public int tokens(int sender) throws IndexOutOfBoundsException {
        return senderAt(sender).tokensLeft;
    }

    public int repeats(int sender) throws IndexOutOfBoundsException {
        return senderAt(sender).untoldRepeats;
    }

    public int drops(int sender) throws IndexOutOfBoundsException {
        return senderAt(sender).untoldDrops;
    }

    public int size(int file) throws IndexOutOfBoundsException {
        return fileAt(file).sumOfLengths;
    }

    public int lines(int file, int generation) throws IndexOutOfBoundsException {
        LogFile asked = fileAt(file);
        if (!asked.has(generation)) {
            throw new IndexOutOfBoundsException("no such generation");
        }
        return asked.linesOf(generation);
    }

    public int line(int file, int generation, int place) throws IndexOutOfBoundsException {
        LogFile asked = fileAt(file);
        if (!asked.has(generation)) {
            throw new IndexOutOfBoundsException("no such generation");
        }
        if (!isWithin(place, 0, asked.linesOf(generation) - 1)) {
            throw new IndexOutOfBoundsException("no such place");
        }
        return asked.lineAt(generation, place);
    }

    public int generations(int file) throws IndexOutOfBoundsException {
        return fileAt(file).olderOnes;
    }

    public int queued() {
        return forwarder.waiting();
    }

    public int inFlight() {
        return forwarder.flying();
    }

    public int acknowledged() {
        return forwarder.acknowledgedOnes;
    }

    public int lost() {
        return forwarder.lostOnes;
    }

    // ---- the ledger

    public int messages() {
        return ledger.entries;
    }

    public int fateOf(int message) throws IndexOutOfBoundsException {
        if (!ledger.has(message)) {
            throw new IndexOutOfBoundsException("no such message");
        }
        return ledger.fateAt(message);
    }

    public int count(int fate) throws IndexOutOfBoundsException {
        if (!isWithin(fate, FOLDED, ROUTED)) {
            throw new IndexOutOfBoundsException("no such fate");
        }
        return ledger.entriesWith(fate);
    }

    public int targetsOf(int message) throws IndexOutOfBoundsException {
        if (!ledger.has(message)) {
            throw new IndexOutOfBoundsException("no such message");
        }
        return ledger.targetsAt(message);
    }

    // ---- arguments

    private static boolean isWithin(int value, int least, int most) {
        return value >= least && value <= most;
    }

    private Sender senderAt(int sender) {
        if (sender < 0 || sender >= SENDERS) {
            throw new IndexOutOfBoundsException("no such sender");
        }
        return senders[sender];
    }

    private Rule ruleAt(int rule) {
        if (rule < 0 || rule >= RULES) {
            throw new IndexOutOfBoundsException("no such rule");
        }
        return rules[rule];
    }

    private LogFile fileAt(int file) {
        if (file < 0 || file >= FILES) {
            throw new IndexOutOfBoundsException("no such file");
        }
        return files[file];
    }

    // ---- lines on their way

    private int rulesThatAreSet() {
        int set = 0;
        for (int i = 0; i < RULES; i++) {
            if (rules[i].isSet) {
                set++;
            }
        }
        return set;
    }

    private void tellRepeats(Sender from) {
        if (from.untoldRepeats > 0) {
            int line = REPEATS_MARK * (from.number + 1) + from.untoldRepeats;
            route(line, from.number, from.lastFacility, from.lastSeverity, REPEATS_LENGTH);
            from.untoldRepeats = 0;
        }
    }

    private void tellDrops(Sender from) {
        if (from.untoldDrops > 0) {
            int line = DROPS_MARK * (from.number + 1) + from.untoldDrops;
            route(line, from.number, DROPS_FACILITY, DROPS_SEVERITY, DROPS_LENGTH);
            from.untoldDrops = 0;
        }
    }

    /** Brings a line to the targets of the rules that it fits, and returns their set. */
    private int route(int line, int sender, int facility, int severity, int length) {
        int targets = 0;
        for (int i = 0; i < RULES; i++) {
            int target = rules[i].target;
            boolean cameThere = (targets >> target & 1) == 1;
            if (cameThere || !rules[i].fits(sender, facility, severity)) {
                continue;
            }
            targets |= 1 << target;
            if (target >= 0 && target < FILES) {
                files[target].add(line, length, now);
            } else {
                forwarder.take(line);
            }
        }
        return targets;
    }

    // ---- a second

    private void passOneSecond() {
        now++;
        if (tokenTime > 0 && now % tokenTime == 0) {
            giveTokens();
        }
        tellDueRepeats();
        rotateAgedFiles();
    }

    private void giveTokens() {
        for (int i = 0; i < SENDERS; i++) {
            senders[i].gainToken(burst);
        }
    }

    private void tellDueRepeats() {
        for (int told = 0; told < SENDERS; told++) {
            Sender next = firstWithDueRepeats();
            if (next == null) {
                return;
            }
            tellRepeats(next);
        }
    }

    private Sender firstWithDueRepeats() {
        Sender first = null;
        for (int i = 0; i < SENDERS; i++) {
            Sender other = senders[i];
            boolean due = other.untoldRepeats > 0 && now - other.firstRepeat >= foldTime;
            if (due && (first == null || other.firstRepeat < first.firstRepeat)) {
                first = other;
            }
        }
        return first;
    }

    private void rotateAgedFiles() {
        for (int i = 0; i < FILES; i++) {
            if (files[i].isAged(now)) {
                files[i].turnOver();
            }
        }
    }

    private int rotationsOfAllFiles() {
        int sum = 0;
        for (int i = 0; i < FILES; i++) {
            sum += files[i].rotations;
        }
        return sum;
    }

    /** A sender with its tokens, its last message, and what has not been told of it. */
    private static final class Sender {
        final int number;
        int tokensLeft;
        int untoldRepeats = 0;
        int firstRepeat = 0;
        int untoldDrops = 0;
        int lastFacility = NONE;
        int lastSeverity = NONE;
        int lastText = NONE;
        int lastLength = NONE;

        Sender(int number, int tokensLeft) {
            this.number = number;
            this.tokensLeft = tokensLeft;
        }

        void capTokens(int most) {
            if (tokensLeft > most) {
                tokensLeft = most;
            }
        }

        void gainToken(int most) {
            if (tokensLeft < most) {
                tokensLeft++;
            }
        }

        boolean lastIs(int facility, int severity, int text, int length) {
            return lastFacility == facility && lastSeverity == severity
                    && lastText == text && lastLength == length;
        }

        void setLast(int facility, int severity, int text, int length) {
            lastFacility = facility;
            lastSeverity = severity;
            lastText = text;
            lastLength = length;
        }

        void countRepeat(int now) {
            if (untoldRepeats == 0) {
                firstRepeat = now;
            }
            untoldRepeats++;
        }
    }

    /** A rule, set or not, that chooses a target for the lines that fit it. */
    private static final class Rule {
        boolean isSet = false;
        int facilities = 0;
        int severity = 0;
        int sender = NONE;
        int target = 0;

        void put(int facilities, int severity, int sender, int target) {
            isSet = true;
            this.facilities = facilities;
            this.severity = severity;
            this.sender = sender;
            this.target = target;
        }

        boolean fits(int from, int facility, int lineSeverity) {
            return isSet && (facilities >> facility & 1) == 1
                    && lineSeverity <= severity && (sender == NONE || sender == from);
        }
    }

    /**
     * A file with its generations. All lines that ever came stand in one row; the file itself
     * and each generation are stretches of it, so that to rotate moves no line.
     */
    private static final class LogFile {
        private final int[] row = new int[MOST_LINES];
        // The file itself starts at starts[0], generation g at starts[g + 1]; each ends where
        // the one before it in this order starts, and the file itself at the end of the row.
        private final int[] starts = new int[MOST_KEPT + 1];
        private int end = 0;
        private int greatestSize = 1000;
        private int age = 0;
        private int kept = 2;
        private int firstCame = 0;
        int sumOfLengths = 0;
        int olderOnes = 0;
        int rotations = 0;

        void limit(int greatestSize, int age, int kept) {
            this.greatestSize = greatestSize;
            this.age = age;
            this.kept = kept;
            if (olderOnes > kept) {
                olderOnes = kept;
            }
        }

        boolean isEmpty() {
            return end == starts[0];
        }

        boolean isAged(int now) {
            return age != 0 && !isEmpty() && now - firstCame >= age;
        }

        void add(int line, int length, int now) {
            if (!isEmpty() && sumOfLengths + length > greatestSize) {
                turnOver();
            }
            if (isEmpty()) {
                firstCame = now;
            }
            if (end >= 0 && end < row.length) {
                row[end] = line;
                end++;
                sumOfLengths += length;
            }
        }

        void turnOver() {
            for (int i = MOST_KEPT; i > 0; i--) {
                starts[i] = starts[i - 1];
            }
            starts[0] = end;
            sumOfLengths = 0;
            rotations++;
            if (olderOnes < kept) {
                olderOnes++;
            }
        }

        boolean has(int generation) {
            return generation >= NONE && generation < olderOnes;
        }

        int linesOf(int generation) {
            int next = generation == NONE ? end : startOf(generation - 1);
            return next - startOf(generation);
        }

        int lineAt(int generation, int place) {
            int at = startOf(generation) + place;
            return at >= 0 && at < row.length ? row[at] : NONE;
        }

        private int startOf(int generation) {
            int at = generation + 1;
            return at >= 0 && at < starts.length ? starts[at] : end;
        }
    }

    /**
     * The forwarder. Its lines stand in one row in the order in which they came: first those
     * that were acknowledged, then those in flight, then those queued.
     */
    private static final class Forwarder {
        private final int[] row = new int[MOST_LINES];
        private int end = 0;
        private int firstQueued = 0;
        int acknowledgedOnes = 0;
        int lostOnes = 0;
        boolean isConnected = false;

        int waiting() {
            return end - firstQueued;
        }

        int flying() {
            return firstQueued - acknowledgedOnes;
        }

        void take(int line) {
            if (end - acknowledgedOnes < MOST_WAITING && end >= 0 && end < row.length) {
                row[end] = line;
                end++;
            } else {
                lostOnes++;
            }
        }

        boolean canSend() {
            return isConnected && waiting() > 0 && flying() < MOST_IN_FLIGHT;
        }

        int sendFirst() {
            int line = lineAt(firstQueued);
            firstQueued++;
            return line;
        }

        int acknowledgeFirst() {
            int line = lineAt(acknowledgedOnes);
            acknowledgedOnes++;
            return line;
        }

        void loseConnection() {
            isConnected = false;
            firstQueued = acknowledgedOnes;
        }

        private int lineAt(int place) {
            return place >= 0 && place < row.length ? row[place] : NONE;
        }
    }

    /** The ledger: the fate and the targets of every message, by its number. */
    private static final class Ledger {
        private final int[] fates = new int[MOST_MESSAGES];
        private final int[] targetSets = new int[MOST_MESSAGES];
        int entries = 0;

        boolean isFull() {
            return entries >= MOST_MESSAGES;
        }

        boolean has(int message) {
            return message >= 0 && message < entries;
        }

        int enter(int fate, int targets) {
            if (entries >= 0 && entries < MOST_MESSAGES) {
                fates[entries] = fate;
                targetSets[entries] = targets;
                entries++;
            }
            return fate;
        }

        int fateAt(int message) {
            return message >= 0 && message < MOST_MESSAGES ? fates[message] : NONE;
        }

        int targetsAt(int message) {
            return message >= 0 && message < MOST_MESSAGES ? targetSets[message] : 0;
        }

        int entriesWith(int fate) {
            int sum = 0;
            for (int i = 0; i < entries && i < MOST_MESSAGES; i++) {
                if (fates[i] == fate) {
                    sum++;
                }
            }
            return sum;
        }
    }
}
