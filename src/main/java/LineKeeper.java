import java.util.ArrayList;
import java.util.List;
import java.util.NoSuchElementException;

/** The caches of a processor whose misses are billed by the names of data; ../shared/DOC.md says what it promises. */
public final class LineKeeper {
    private static final int CORES = 4;
    private static final int SETS = 4;
    private static final int SET_LINES = 2;
    private static final int LINES = 64;
    private static final int LINE_WORDS = 8;
    private static final int MEMORY_WORDS = 512;
    private static final int NAMES = 12;
    private static final int NAME_WORDS = 32;
    private static final int GREATEST_ALIGN = 64;
    private static final int CALLS = 512;

    private static final int NONE = -1;

    private static final char ABSENT = '-';
    private static final char SHARED = 's';
    private static final char EXCLUSIVE = 'e';
    private static final char MODIFIED = 'm';

    private static final char HIT = 'h';
    private static final char UPGRADE = 'u';
    private static final char COLD = 'c';
    private static final char EVICTED = 'e';
    private static final char SAME_NAME = 't';
    private static final char OTHER_NAME = 'f';

    private static final int HIT_COST = 1;
    private static final int UPGRADE_COST = 8;
    private static final int NEAR_COST = 12;
    private static final int FAR_COST = 40;
    private static final int REPLACING_COST = 5;

    private final Layout layout = new Layout();
    private final Caches caches = new Caches();
    // Every replay runs on this one, so that no call has to make caches of its own.
    private final Caches replayed = new Caches();
    private final List<Event> events = new ArrayList<>();
    private final List<Event> accesses = new ArrayList<>();

    public LineKeeper() {
    }

    // Names and layouts

    public int addName(int words) throws IllegalArgumentException, IllegalStateException {
        if (words < 1 || words > NAME_WORDS) {
            throw new IllegalArgumentException("a name has from 1 to 32 words");
        }
        if (layout.isFull()) {
            throw new IllegalStateException("there are 12 names");
        }
        return layout.addUnplaced(words);
    }

    public int place(int name, int address)
            throws NoSuchElementException, IllegalArgumentException, IllegalStateException {
        checkName(name);
        if (!layout.isInMemory(name, address)) {
            throw new IllegalArgumentException("the memory has the addresses 0 to 511");
        }
        if (layout.isPlaced(name)) {
            throw new IllegalStateException("the name is placed");
        }
        if (!layout.isFree(name, address)) {
            throw new IllegalStateException("another name is there");
        }
        layout.setStart(name, address);
        return address / LINE_WORDS;
    }

    public int link(int align) throws IllegalArgumentException, UnsupportedOperationException {
        if (align < 1 || align > GREATEST_ALIGN) {
            throw new IllegalArgumentException("the number is from 1 to 64");
        }
        int placed = layout.placeAll(align);
        if (placed == NONE) {
            throw new UnsupportedOperationException("a name cannot be placed");
        }
        return placed;
    }

    public int take(int name) throws NoSuchElementException, IllegalStateException {
        checkPlacedName(name);
        int start = layout.startOf(name);
        layout.setStart(name, NONE);
        return start;
    }

    public int addressOf(int name, int word)
            throws NoSuchElementException, IllegalStateException, IllegalArgumentException {
        checkWord(name, word);
        return layout.startOf(name) + word;
    }

    public int nameAt(int address) throws IllegalArgumentException, NoSuchElementException {
        if (address < 0 || address >= MEMORY_WORDS) {
            throw new IllegalArgumentException("the memory has the addresses 0 to 511");
        }
        int name = layout.findAt(address);
        if (name == NONE) {
            throw new NoSuchElementException("no name has a word there");
        }
        return name;
    }

    public boolean meet(int name, int other) throws NoSuchElementException, IllegalArgumentException {
        checkName(name);
        checkName(other);
        if (name == other) {
            throw new IllegalArgumentException("both names are the same");
        }
        return layout.isOnOneLine(name, other);
    }

    // Accesses

    public int read(int core, int name, int word)
            throws IndexOutOfBoundsException, NoSuchElementException, IllegalStateException,
            IllegalArgumentException {
        return access(Event.READ, core, name, word);
    }

    public int write(int core, int name, int word)
            throws IndexOutOfBoundsException, NoSuchElementException, IllegalStateException,
            IllegalArgumentException {
        return access(Event.WRITE, core, name, word);
    }

    public int empty(int core) throws IndexOutOfBoundsException {
        checkCore(core);
        if (isFull()) {
            return 0;
        }
        events.add(new Event(Event.EMPTY, core));
        return caches.dropAll(core);
    }

    public boolean setAhead(int core, boolean isAhead) throws IndexOutOfBoundsException {
        checkCore(core);
        boolean wasAhead = caches.isAhead(core);
        if (isFull()) {
            return wasAhead;
        }
        int kind = isAhead ? Event.AHEAD_ON : Event.AHEAD_OFF;
        events.add(new Event(kind, core));
        caches.tellAhead(core, isAhead);
        return wasAhead;
    }

    public int accesses() {
        return accesses.size();
    }

    public int costOf(int index) throws NoSuchElementException {
        checkIndex(index);
        return accesses.get(index).cost;
    }

    public int costByReplay(int index) throws NoSuchElementException {
        checkIndex(index);
        return replayUpTo(index);
    }

    public char causeOf(int index) throws NoSuchElementException {
        checkIndex(index);
        return accesses.get(index).cause;
    }

    // States

    public char state(int core, int line) throws IndexOutOfBoundsException, IllegalArgumentException {
        checkCore(core);
        checkLine(line);
        return caches.stateOf(core, line);
    }

    public int owner(int line) throws IllegalArgumentException, NoSuchElementException {
        checkLine(line);
        int core = caches.ownerOf(line);
        if (core == NONE) {
            throw new NoSuchElementException("the line has no owner");
        }
        return core;
    }

    public int holders(int line) throws IllegalArgumentException {
        checkLine(line);
        return caches.countHolders(line);
    }

    public int lines(int core) throws IndexOutOfBoundsException {
        checkCore(core);
        int lines = 0;
        for (int set = 0; set < SETS; set++) {
            lines += caches.countLines(core, set);
        }
        return lines;
    }

    public int oldest(int core, int set)
            throws IndexOutOfBoundsException, IllegalArgumentException, NoSuchElementException {
        checkCore(core);
        if (set < 0 || set >= SETS) {
            throw new IllegalArgumentException("the sets are 0 to 3");
        }
        int line = caches.oldestOf(core, set);
        if (line == NONE) {
            throw new NoSuchElementException("the set is empty");
        }
        return line;
    }

    // Misses and bills

    public int count(int name, char cause) throws NoSuchElementException, IllegalArgumentException {
        checkName(name);
        if (!isCause(cause)) {
            throw new IllegalArgumentException("the causes are h, u, c, e, t and f");
        }
        int count = 0;
        for (int index = 0; index < accesses.size(); index++) {
            Event access = accesses.get(index);
            if (access.name == name && access.cause == cause) {
                count++;
            }
        }
        return count;
    }

    public long bill(int name) throws NoSuchElementException {
        checkName(name);
        return sumOfName(name);
    }

    public int worst() throws NoSuchElementException {
        if (layout.countNames() == 0) {
            throw new NoSuchElementException("there are no names");
        }
        int worst = 0;
        long greatest = sumOfName(0);
        for (int name = 1; name < layout.countNames(); name++) {
            long sum = sumOfName(name);
            if (sum > greatest) {
                worst = name;
                greatest = sum;
            }
        }
        return worst;
    }

    public long cycles(int core) throws IndexOutOfBoundsException {
        checkCore(core);
        long sum = 0;
        for (int index = 0; index < accesses.size(); index++) {
            Event access = accesses.get(index);
            if (access.core == core) {
                sum += access.cost;
            }
        }
        return sum;
    }

    public int fetched(int core) throws IndexOutOfBoundsException {
        checkCore(core);
        return caches.countFetched(core);
    }

    public int useful(int core) throws IndexOutOfBoundsException {
        checkCore(core);
        return caches.countUseful(core);
    }

    public int wrong(int core) throws IndexOutOfBoundsException {
        checkCore(core);
        return caches.countWrong(core);
    }

    public float missShare() throws ArithmeticException {
        if (accesses.isEmpty()) {
            throw new ArithmeticException("there were no accesses");
        }
        int misses = 0;
        for (int index = 0; index < accesses.size(); index++) {
            char cause = accesses.get(index).cause;
            if (cause != HIT && cause != UPGRADE) {
                misses++;
            }
        }
        return (float) misses / (float) accesses.size();
    }

    public double meanCost() throws ArithmeticException {
        if (accesses.isEmpty()) {
            throw new ArithmeticException("there were no accesses");
        }
        long sum = 0;
        for (int index = 0; index < accesses.size(); index++) {
            sum += accesses.get(index).cost;
        }
        return (double) sum / (double) accesses.size();
    }

    public boolean isCoherent() {
        return caches.hasLoneOwners() && isSameByReplay();
    }

    // What the calls have in common

    private static void checkCore(int core) {
        if (core < 0 || core >= CORES) {
            throw new IndexOutOfBoundsException("the cores are 0 to 3");
        }
    }

    private static void checkLine(int line) {
        if (line < 0 || line >= LINES) {
            throw new IllegalArgumentException("the lines are 0 to 63");
        }
    }

    private void checkName(int name) {
        if (!layout.hasName(name)) {
            throw new NoSuchElementException("there is no such name");
        }
    }

    private void checkPlacedName(int name) {
        checkName(name);
        if (!layout.isPlaced(name)) {
            throw new IllegalStateException("the name is not placed");
        }
    }

    private void checkWord(int name, int word) {
        checkPlacedName(name);
        if (!layout.hasWord(name, word)) {
            throw new IllegalArgumentException("the name has no such word");
        }
    }

    private void checkIndex(int index) {
        if (index < 0 || index >= accesses.size()) {
            throw new NoSuchElementException("there is no such access");
        }
    }

    private static boolean isCause(char cause) {
        return cause == HIT || cause == UPGRADE || cause == COLD || cause == EVICTED
                || cause == SAME_NAME || cause == OTHER_NAME;
    }

    // Only calls behind the last promised one find it full: each call keeps one event at most.
    private boolean isFull() {
        return events.size() >= CALLS;
    }

    private int access(int kind, int core, int name, int word) {
        checkCore(core);
        checkWord(name, word);
        if (isFull()) {
            throw new IllegalStateException("the object is used for at most 512 calls");
        }
        int line = (layout.startOf(name) + word) / LINE_WORDS;
        boolean isWrite = kind == Event.WRITE;
        char cause = caches.causeOfNext(core, name, line, isWrite);
        int cost = caches.makeAccess(core, name, line, isWrite);
        Event access = new Event(kind, core, name, line, cost, cause);
        events.add(access);
        accesses.add(access);
        return cost;
    }

    private long sumOfName(int name) {
        long sum = 0;
        for (int index = 0; index < accesses.size(); index++) {
            Event access = accesses.get(index);
            if (access.name == name) {
                sum += access.cost;
            }
        }
        return sum;
    }

    private int replayUpTo(int index) {
        replayed.clear();
        int cost = 0;
        int seen = 0;
        for (int at = 0; at < events.size() && seen <= index; at++) {
            Event event = events.get(at);
            int again = replay(event);
            if (event.isAccess()) {
                cost = again;
                seen++;
            }
        }
        return cost;
    }

    private boolean isSameByReplay() {
        replayed.clear();
        for (int at = 0; at < events.size(); at++) {
            Event event = events.get(at);
            if (event.isAccess() && event.cause
                    != replayed.causeOfNext(event.core, event.name, event.line, event.isWrite())) {
                return false;
            }
            if (event.cost != replay(event)) {
                return false;
            }
        }
        return replayed.hasStatesOf(caches);
    }

    /** Returns the cost, 0 if the event is no access. */
    private int replay(Event event) {
        if (event.isAccess()) {
            return replayed.makeAccess(event.core, event.name, event.line, event.isWrite());
        }
        if (event.kind == Event.EMPTY) {
            replayed.dropAll(event.core);
        } else {
            replayed.tellAhead(event.core, event.kind == Event.AHEAD_ON);
        }
        return 0;
    }

    /** A call that changed the caches; the line is kept, because the name may be moved behind it. */
    private static final class Event {
        static final int READ = 0;
        static final int WRITE = 1;
        static final int EMPTY = 2;
        static final int AHEAD_ON = 3;
        static final int AHEAD_OFF = 4;
        private static final char NO_CAUSE = '-';

        final int kind;
        final int core;
        final int name;
        final int line;
        final int cost;
        final char cause;

        Event(int kind, int core) {
            this(kind, core, NONE, NONE, 0, NO_CAUSE);
        }

        Event(int kind, int core, int name, int line, int cost, char cause) {
            this.kind = kind;
            this.core = core;
            this.name = name;
            this.line = line;
            this.cost = cost;
            this.cause = cause;
        }

        boolean isAccess() {
            return kind == READ || kind == WRITE;
        }

        boolean isWrite() {
            return kind == WRITE;
        }
    }

    /** The names and where they are in the memory. */
    private static final class Layout {
        private final int[] sizes = new int[NAMES];
        private final int[] starts = new int[NAMES];
        private final int[] startsBefore = new int[NAMES];
        private int names = 0;

        Layout() {
        }

        boolean isFull() {
            return names >= NAMES;
        }

        int countNames() {
            return names;
        }

        boolean hasName(int name) {
            return name >= 0 && name < names;
        }

        boolean isPlaced(int name) {
            return hasName(name) && starts[name] != NONE;
        }

        boolean hasWord(int name, int word) {
            return hasName(name) && word >= 0 && word < sizes[name];
        }

        int startOf(int name) {
            return hasName(name) ? starts[name] : NONE;
        }

        void setStart(int name, int address) {
            if (hasName(name)) {
                starts[name] = address;
            }
        }

        int addUnplaced(int words) {
            if (isFull()) {
                return NONE;
            }
            sizes[names] = words;
            starts[names] = NONE;
            names++;
            return names - 1;
        }

        boolean isInMemory(int name, int address) {
            return hasName(name) && address >= 0 && address <= MEMORY_WORDS - sizes[name];
        }

        boolean isFree(int name, int address) {
            if (!hasName(name)) {
                return false;
            }
            for (int other = 0; other < names; other++) {
                int start = starts[other];
                if (other != name && start != NONE
                        && start < address + sizes[name] && address < start + sizes[other]) {
                    return false;
                }
            }
            return true;
        }

        int findAt(int address) {
            for (int name = 0; name < names; name++) {
                int start = starts[name];
                if (start != NONE && start <= address && address < start + sizes[name]) {
                    return name;
                }
            }
            return NONE;
        }

        boolean isOnOneLine(int name, int other) {
            if (!isPlaced(name) || !isPlaced(other)) {
                return false;
            }
            return starts[name] / LINE_WORDS <= lastLineOf(other)
                    && starts[other] / LINE_WORDS <= lastLineOf(name);
        }

        private int lastLineOf(int name) {
            return isPlaced(name) ? (starts[name] + sizes[name] - 1) / LINE_WORDS : NONE;
        }

        /** Returns how many names it places, or NONE when one has no room and so all stay where they were. */
        int placeAll(int align) {
            System.arraycopy(starts, 0, startsBefore, 0, NAMES);
            int placed = 0;
            for (int name = 0; name < names; name++) {
                if (starts[name] == NONE) {
                    int address = lowestFor(name, align);
                    if (address == NONE) {
                        System.arraycopy(startsBefore, 0, starts, 0, NAMES);
                        return NONE;
                    }
                    starts[name] = address;
                    placed++;
                }
            }
            return placed;
        }

        private int lowestFor(int name, int align) {
            int step = Math.max(align, 1);
            for (int address = 0; address < MEMORY_WORDS; address += step) {
                if (isInMemory(name, address) && isFree(name, address)) {
                    return address;
                }
            }
            return NONE;
        }
    }

    /** The caches of all cores, and what the cores learn; a core's line has the slot core * LINES + line. */
    private static final class Caches {
        private static final int SLOTS = CORES * LINES;
        // How a line left last: one of these two, or the number of the name that another core wrote.
        private static final int NEVER = -2;
        private static final int NOT_BY_WRITE = -1;

        private final char[] states = new char[SLOTS];
        private final int[] uses = new int[SLOTS];
        private final int[] leavings = new int[SLOTS];
        // Whether the line was fetched ahead and not accessed yet.
        private final boolean[] untried = new boolean[SLOTS];
        private final boolean[] aheads = new boolean[CORES];
        private final int[] missLines = new int[CORES];
        // The step 0 also stands for no step, because neither is ever followed.
        private final int[] steps = new int[CORES];
        private final int[] fetchedLines = new int[CORES];
        private final int[] usefulLines = new int[CORES];
        private final int[] wrongLines = new int[CORES];
        private int now = 0;

        Caches() {
            clear();
        }

        void clear() {
            for (int slot = 0; slot < SLOTS; slot++) {
                states[slot] = ABSENT;
                uses[slot] = 0;
                leavings[slot] = NEVER;
                untried[slot] = false;
            }
            for (int core = 0; core < CORES; core++) {
                tellAhead(core, false);
                fetchedLines[core] = 0;
                usefulLines[core] = 0;
                wrongLines[core] = 0;
            }
            now = 0;
        }

        boolean isAhead(int core) {
            return aheads[core];
        }

        void tellAhead(int core, boolean isAhead) {
            aheads[core] = isAhead;
            missLines[core] = NONE;
            steps[core] = 0;
        }

        int countFetched(int core) {
            return fetchedLines[core];
        }

        int countUseful(int core) {
            return usefulLines[core];
        }

        int countWrong(int core) {
            return wrongLines[core];
        }

        char stateOf(int core, int line) {
            return states[core * LINES + line];
        }

        int ownerOf(int line) {
            for (int core = 0; core < CORES; core++) {
                char state = states[core * LINES + line];
                if (state == EXCLUSIVE || state == MODIFIED) {
                    return core;
                }
            }
            return NONE;
        }

        int countHolders(int line) {
            int holders = 0;
            for (int core = 0; core < CORES; core++) {
                if (states[core * LINES + line] != ABSENT) {
                    holders++;
                }
            }
            return holders;
        }

        int countLines(int core, int set) {
            int count = 0;
            for (int line = set; line < LINES; line += SETS) {
                if (states[core * LINES + line] != ABSENT) {
                    count++;
                }
            }
            return count;
        }

        int oldestOf(int core, int set) {
            int oldest = NONE;
            int oldestUse = 0;
            for (int line = set; line < LINES; line += SETS) {
                int slot = core * LINES + line;
                if (states[slot] != ABSENT && (oldest == NONE || uses[slot] < oldestUse)) {
                    oldest = line;
                    oldestUse = uses[slot];
                }
            }
            return oldest;
        }

        boolean hasLoneOwners() {
            for (int line = 0; line < LINES; line++) {
                if (ownerOf(line) != NONE && countHolders(line) > 1) {
                    return false;
                }
            }
            return true;
        }

        boolean hasStatesOf(Caches other) {
            for (int slot = 0; slot < SLOTS; slot++) {
                if (states[slot] != other.states[slot]) {
                    return false;
                }
            }
            return true;
        }

        /** Returns the cause that an access has if it is made now. */
        char causeOfNext(int core, int name, int line, boolean isWrite) {
            int slot = core * LINES + line;
            if (states[slot] != ABSENT) {
                return isWrite && states[slot] == SHARED ? UPGRADE : HIT;
            }
            int leaving = leavings[slot];
            if (leaving == NEVER) {
                return COLD;
            }
            if (leaving == NOT_BY_WRITE) {
                return EVICTED;
            }
            return leaving == name ? SAME_NAME : OTHER_NAME;
        }

        /** Returns the cost. */
        int makeAccess(int core, int name, int line, boolean isWrite) {
            int slot = core * LINES + line;
            boolean isMiss = states[slot] == ABSENT;
            int cost = costOfNext(core, line, isWrite);
            if (isMiss) {
                cost += makeRoom(core, line) ? REPLACING_COST : 0;
                if (!isWrite) {
                    shareAll(line);
                }
                bring(core, line);
            }
            if (isWrite) {
                dropElsewhere(core, name, line);
                states[slot] = MODIFIED;
            }
            use(core, line);
            if (isMiss && aheads[core]) {
                int next = learn(core, line);
                if (canFetch(core, next)) {
                    fetch(core, next);
                }
            }
            return cost;
        }

        /** Returns the number of modified lines among them. */
        int dropAll(int core) {
            int modified = 0;
            for (int line = 0; line < LINES; line++) {
                if (states[core * LINES + line] == MODIFIED) {
                    modified++;
                }
                drop(core, line, NOT_BY_WRITE);
            }
            return modified;
        }

        private int costOfNext(int core, int line, boolean isWrite) {
            char state = states[core * LINES + line];
            if (state == ABSENT) {
                return countHolders(line) > 0 ? NEAR_COST : FAR_COST;
            }
            return isWrite && state == SHARED ? UPGRADE_COST : HIT_COST;
        }

        /** Returns whether a modified line left. */
        private boolean makeRoom(int core, int line) {
            int set = line % SETS;
            int leaving = oldestOf(core, set);
            if (leaving == NONE || countLines(core, set) < SET_LINES) {
                return false;
            }
            boolean wasModified = states[core * LINES + leaving] == MODIFIED;
            drop(core, leaving, NOT_BY_WRITE);
            return wasModified;
        }

        private void shareAll(int line) {
            for (int core = 0; core < CORES; core++) {
                int slot = core * LINES + line;
                if (states[slot] != ABSENT) {
                    states[slot] = SHARED;
                }
            }
        }

        private void bring(int core, int line) {
            int slot = core * LINES + line;
            states[slot] = countHolders(line) > 0 ? SHARED : EXCLUSIVE;
            now++;
            uses[slot] = now;
        }

        private void use(int core, int line) {
            int slot = core * LINES + line;
            now++;
            uses[slot] = now;
            if (untried[slot]) {
                untried[slot] = false;
                usefulLines[core]++;
            }
        }

        private void drop(int core, int line, int leaving) {
            int slot = core * LINES + line;
            if (states[slot] == ABSENT) {
                return;
            }
            states[slot] = ABSENT;
            leavings[slot] = leaving;
            if (untried[slot]) {
                untried[slot] = false;
                wrongLines[core]++;
            }
        }

        private void dropElsewhere(int core, int name, int line) {
            for (int other = 0; other < CORES; other++) {
                if (other != core) {
                    drop(other, line, name);
                }
            }
        }

        /** Returns the number that the next line has if the misses go on in steps, or NONE if there are no steps. */
        private int learn(int core, int line) {
            int before = missLines[core];
            int step = before == NONE ? 0 : line - before;
            boolean isSteady = step != 0 && step == steps[core];
            missLines[core] = line;
            steps[core] = step;
            return isSteady ? line + step : NONE;
        }

        private boolean canFetch(int core, int line) {
            return line >= 0 && line < LINES
                    && states[core * LINES + line] == ABSENT && ownerOf(line) == NONE;
        }

        private void fetch(int core, int line) {
            makeRoom(core, line);
            bring(core, line);
            untried[core * LINES + line] = true;
            fetchedLines[core]++;
        }
    }
}
