import java.util.NoSuchElementException;

/**
 * "A method that throws an exception changes nothing. If several exceptions apply, the one that is documented first is
 * thrown." Each refused call of each method is made to keepers in several states, and these go on as if it had not
 * been made.
 */
public final class RefusedTest {
    private static final Class<IndexOutOfBoundsException> NO_CORE = IndexOutOfBoundsException.class;
    private static final Class<NoSuchElementException> NONE_SUCH = NoSuchElementException.class;
    private static final Class<IllegalArgumentException> WRONG_NUMBER = IllegalArgumentException.class;
    private static final Class<IllegalStateException> WRONG_STATE = IllegalStateException.class;
    private static final Class<UnsupportedOperationException> NO_ROOM = UnsupportedOperationException.class;

    private static final int[] NO_CORES = {-1, 4, Integer.MIN_VALUE, Integer.MAX_VALUE};
    private static final int[] NO_LINES = {-1, 64, Integer.MIN_VALUE, Integer.MAX_VALUE};
    private static final int PLACED = 0;
    private static final int UNPLACED = 10;
    private static final int ABSENT = 11;

    private static final Check check = new Check();
    private static final Twins fresh = new Twins(check, LineKeeper::new);
    private static final Twins busy = new Twins(check, Keepers::busy);
    private static final Twins crowded = new Twins(check, RefusedTest::makeCrowded);

    public static void main(String[] args) {
        keepersAreAsTheyAreMeant();
        addName();
        place();
        link();
        take();
        addressOf();
        nameAt();
        meet();
        readAndWrite();
        emptyAndSetAhead();
        accessesByIndex();
        statesOfLines();
        bills();
        countsOfCores();
        shares();
        check.end();
    }

    /** 12 names, and the last ones have no place at addresses that 64 divides. */
    private static LineKeeper makeCrowded() {
        LineKeeper x = Keepers.withNames(32, 32, 32, 32, 32, 32, 32, 32, 32, 32, 32, 32);
        x.place(8, 320);
        x.place(1, 64);
        Keepers.write(x, 1, 4);
        x.take(1);
        return x;
    }

    private static void keepersAreAsTheyAreMeant() {
        LineKeeper x = Keepers.busy();
        check.due('e', () -> x.state(0, 3));
        check.due(1, () -> x.fetched(0));
        check.due(0, () -> x.useful(0));
        Keepers.read(x, 1, 7);
        check.due(1, () -> x.fetched(1));
        x.read(2, 8, 0);
        check.due('f', () -> x.causeOf(x.accesses() - 1));
        Keepers.read(x, 2, 11);
        check.due('e', () -> x.causeOf(x.accesses() - 1));
        check.due(ABSENT, () -> Keepers.busy().addName(8));
        check.isThrown(WRONG_STATE, () -> Keepers.busy().take(UNPLACED));
        check.due(0, () -> Keepers.busy().take(PLACED));
    }

    private static void addName() {
        for (int words : new int[] {0, 33, -1, Integer.MIN_VALUE, Integer.MAX_VALUE}) {
            fresh.isThrown(WRONG_NUMBER, x -> x.addName(words));
            busy.isThrown(WRONG_NUMBER, x -> x.addName(words));
            crowded.isThrown(WRONG_NUMBER, x -> x.addName(words));
        }
        crowded.isThrown(WRONG_STATE, x -> x.addName(1));
        crowded.isThrown(WRONG_STATE, x -> x.addName(32));
    }

    private static void place() {
        fresh.isThrown(NONE_SUCH, x -> x.place(0, 0));
        fresh.isThrown(NONE_SUCH, x -> x.place(0, 512));
        for (int name : new int[] {-1, ABSENT, 12, Integer.MIN_VALUE, Integer.MAX_VALUE}) {
            busy.isThrown(NONE_SUCH, x -> x.place(name, 400));
            busy.isThrown(NONE_SUCH, x -> x.place(name, -1));
            busy.isThrown(NONE_SUCH, x -> x.place(name, 0));
        }
        for (int address : new int[] {-1, 505, 511, 512, Integer.MIN_VALUE, Integer.MAX_VALUE}) {
            busy.isThrown(WRONG_NUMBER, x -> x.place(UNPLACED, address));
        }
        busy.isThrown(WRONG_NUMBER, x -> x.place(PLACED, -1));
        busy.isThrown(WRONG_NUMBER, x -> x.place(PLACED, 481));
        busy.isThrown(WRONG_NUMBER, x -> x.place(PLACED, 512));
        busy.isThrown(WRONG_STATE, x -> x.place(PLACED, 480));
        busy.isThrown(WRONG_STATE, x -> x.place(PLACED, 0));
        busy.isThrown(WRONG_STATE, x -> x.place(PLACED, 8));
        busy.isThrown(WRONG_STATE, x -> x.place(UNPLACED, 0));
        busy.isThrown(WRONG_STATE, x -> x.place(UNPLACED, 255));
        busy.isThrown(WRONG_STATE, x -> x.place(UNPLACED, 313));
        busy.isThrown(WRONG_STATE, x -> x.place(UNPLACED, 327));
        crowded.isThrown(WRONG_STATE, x -> x.place(11, 351));
        crowded.isThrown(NONE_SUCH, x -> x.place(12, 0));
    }

    private static void link() {
        for (int align : new int[] {0, 65, -1, Integer.MIN_VALUE, Integer.MAX_VALUE}) {
            fresh.isThrown(WRONG_NUMBER, x -> x.link(align));
            busy.isThrown(WRONG_NUMBER, x -> x.link(align));
            crowded.isThrown(WRONG_NUMBER, x -> x.link(align));
        }
        crowded.isThrown(NO_ROOM, x -> x.link(64));
        crowded.isThrown(NO_ROOM, x -> x.link(49));
    }

    private static void take() {
        fresh.isThrown(NONE_SUCH, x -> x.take(0));
        busy.isThrown(NONE_SUCH, x -> x.take(-1));
        busy.isThrown(NONE_SUCH, x -> x.take(ABSENT));
        busy.isThrown(NONE_SUCH, x -> x.take(Integer.MAX_VALUE));
        busy.isThrown(WRONG_STATE, x -> x.take(UNPLACED));
        crowded.isThrown(WRONG_STATE, x -> x.take(0));
        crowded.isThrown(WRONG_STATE, x -> x.take(11));
        crowded.isThrown(NONE_SUCH, x -> x.take(12));
    }

    private static void addressOf() {
        fresh.isThrown(NONE_SUCH, x -> x.addressOf(0, 0));
        fresh.isThrown(NONE_SUCH, x -> x.addressOf(0, -1));
        busy.isThrown(NONE_SUCH, x -> x.addressOf(ABSENT, 0));
        busy.isThrown(NONE_SUCH, x -> x.addressOf(-1, 32));
        busy.isThrown(WRONG_STATE, x -> x.addressOf(UNPLACED, 0));
        busy.isThrown(WRONG_STATE, x -> x.addressOf(UNPLACED, 8));
        busy.isThrown(WRONG_STATE, x -> x.addressOf(UNPLACED, -1));
        busy.isThrown(WRONG_NUMBER, x -> x.addressOf(PLACED, 32));
        busy.isThrown(WRONG_NUMBER, x -> x.addressOf(PLACED, -1));
        busy.isThrown(WRONG_NUMBER, x -> x.addressOf(9, 4));
        busy.isThrown(WRONG_NUMBER, x -> x.addressOf(9, Integer.MAX_VALUE));
        busy.isThrown(WRONG_NUMBER, x -> x.addressOf(9, Integer.MIN_VALUE));
    }

    private static void nameAt() {
        for (int address : new int[] {-1, 512, Integer.MIN_VALUE, Integer.MAX_VALUE}) {
            fresh.isThrown(WRONG_NUMBER, x -> x.nameAt(address));
            busy.isThrown(WRONG_NUMBER, x -> x.nameAt(address));
        }
        fresh.isThrown(NONE_SUCH, x -> x.nameAt(0));
        fresh.isThrown(NONE_SUCH, x -> x.nameAt(511));
        busy.isThrown(NONE_SUCH, x -> x.nameAt(256));
        busy.isThrown(NONE_SUCH, x -> x.nameAt(328));
        crowded.isThrown(NONE_SUCH, x -> x.nameAt(64));
    }

    private static void meet() {
        fresh.isThrown(NONE_SUCH, x -> x.meet(0, 0));
        fresh.isThrown(NONE_SUCH, x -> x.meet(0, 1));
        busy.isThrown(NONE_SUCH, x -> x.meet(ABSENT, 0));
        busy.isThrown(NONE_SUCH, x -> x.meet(0, ABSENT));
        busy.isThrown(NONE_SUCH, x -> x.meet(-1, 0));
        busy.isThrown(NONE_SUCH, x -> x.meet(0, -1));
        busy.isThrown(NONE_SUCH, x -> x.meet(ABSENT, ABSENT));
        busy.isThrown(NONE_SUCH, x -> x.meet(-1, -1));
        busy.isThrown(NONE_SUCH, x -> x.meet(UNPLACED, ABSENT));
        busy.isThrown(WRONG_NUMBER, x -> x.meet(PLACED, PLACED));
        busy.isThrown(WRONG_NUMBER, x -> x.meet(UNPLACED, UNPLACED));
        crowded.isThrown(WRONG_NUMBER, x -> x.meet(11, 11));
    }

    private static void readAndWrite() {
        for (boolean isWrite : new boolean[] {false, true}) {
            fresh.isThrown(NONE_SUCH, x -> access(x, isWrite, 0, 0, 0));
            fresh.isThrown(NO_CORE, x -> access(x, isWrite, 4, 0, 0));
            for (int core : NO_CORES) {
                busy.isThrown(NO_CORE, x -> access(x, isWrite, core, PLACED, 0));
                busy.isThrown(NO_CORE, x -> access(x, isWrite, core, ABSENT, 0));
                busy.isThrown(NO_CORE, x -> access(x, isWrite, core, UNPLACED, 8));
                busy.isThrown(NO_CORE, x -> access(x, isWrite, core, PLACED, 32));
            }
            for (int name : new int[] {-1, ABSENT, 12, Integer.MIN_VALUE, Integer.MAX_VALUE}) {
                busy.isThrown(NONE_SUCH, x -> access(x, isWrite, 0, name, 0));
                busy.isThrown(NONE_SUCH, x -> access(x, isWrite, 3, name, -1));
            }
            busy.isThrown(WRONG_STATE, x -> access(x, isWrite, 0, UNPLACED, 0));
            busy.isThrown(WRONG_STATE, x -> access(x, isWrite, 3, UNPLACED, 7));
            busy.isThrown(WRONG_STATE, x -> access(x, isWrite, 1, UNPLACED, 8));
            busy.isThrown(WRONG_STATE, x -> access(x, isWrite, 1, UNPLACED, -1));
            for (int word : new int[] {-1, 32, Integer.MIN_VALUE, Integer.MAX_VALUE}) {
                busy.isThrown(WRONG_NUMBER, x -> access(x, isWrite, 0, PLACED, word));
                busy.isThrown(WRONG_NUMBER, x -> access(x, isWrite, 1, 1, word));
            }
            busy.isThrown(WRONG_NUMBER, x -> access(x, isWrite, 2, 9, 4));
            crowded.isThrown(WRONG_STATE, x -> access(x, isWrite, 1, 1, 0));
        }
    }

    private static int access(LineKeeper x, boolean isWrite, int core, int name, int word) {
        return isWrite ? x.write(core, name, word) : x.read(core, name, word);
    }

    private static void emptyAndSetAhead() {
        for (int core : NO_CORES) {
            fresh.isThrown(NO_CORE, x -> x.empty(core));
            busy.isThrown(NO_CORE, x -> x.empty(core));
            busy.isThrown(NO_CORE, x -> x.setAhead(core, true));
            busy.isThrown(NO_CORE, x -> x.setAhead(core, false));
        }
    }

    private static void accessesByIndex() {
        int made = Keepers.busy().accesses();
        for (int index : new int[] {-1, made, made + 1, Integer.MIN_VALUE, Integer.MAX_VALUE}) {
            busy.isThrown(NONE_SUCH, x -> x.costOf(index));
            busy.isThrown(NONE_SUCH, x -> x.costByReplay(index));
            busy.isThrown(NONE_SUCH, x -> x.causeOf(index));
        }
        for (int index : new int[] {-1, 0, 1}) {
            fresh.isThrown(NONE_SUCH, x -> x.costOf(index));
            fresh.isThrown(NONE_SUCH, x -> x.costByReplay(index));
            fresh.isThrown(NONE_SUCH, x -> x.causeOf(index));
        }
    }

    private static void statesOfLines() {
        for (int line : NO_LINES) {
            busy.isThrown(WRONG_NUMBER, x -> x.state(0, line));
            busy.isThrown(WRONG_NUMBER, x -> x.state(3, line));
            busy.isThrown(NO_CORE, x -> x.state(4, line));
            busy.isThrown(WRONG_NUMBER, x -> x.owner(line));
            busy.isThrown(WRONG_NUMBER, x -> x.holders(line));
            fresh.isThrown(WRONG_NUMBER, x -> x.owner(line));
        }
        busy.isThrown(NONE_SUCH, x -> x.owner(15));
        busy.isThrown(NONE_SUCH, x -> x.owner(63));
        fresh.isThrown(NONE_SUCH, x -> x.owner(0));
        for (int core : NO_CORES) {
            busy.isThrown(NO_CORE, x -> x.state(core, 0));
            busy.isThrown(NO_CORE, x -> x.lines(core));
            busy.isThrown(NO_CORE, x -> x.oldest(core, 0));
            busy.isThrown(NO_CORE, x -> x.oldest(core, 4));
        }
        for (int set : new int[] {-1, 4, Integer.MIN_VALUE, Integer.MAX_VALUE}) {
            busy.isThrown(WRONG_NUMBER, x -> x.oldest(0, set));
            fresh.isThrown(WRONG_NUMBER, x -> x.oldest(3, set));
        }
        busy.isThrown(NONE_SUCH, x -> x.oldest(3, 3));
        fresh.isThrown(NONE_SUCH, x -> x.oldest(0, 0));
    }

    private static void bills() {
        for (int name : new int[] {-1, ABSENT, 12, Integer.MIN_VALUE, Integer.MAX_VALUE}) {
            busy.isThrown(NONE_SUCH, x -> x.count(name, 'h'));
            busy.isThrown(NONE_SUCH, x -> x.count(name, 'x'));
            busy.isThrown(NONE_SUCH, x -> x.bill(name));
        }
        for (char cause : "ms-abdgiHUCETF\0 \uffff".toCharArray()) {
            busy.isThrown(WRONG_NUMBER, x -> x.count(PLACED, cause));
            busy.isThrown(WRONG_NUMBER, x -> x.count(UNPLACED, cause));
        }
        fresh.isThrown(NONE_SUCH, x -> x.count(0, 'h'));
        fresh.isThrown(NONE_SUCH, x -> x.bill(0));
        fresh.isThrown(NONE_SUCH, LineKeeper::worst);
    }

    private static void countsOfCores() {
        for (int core : NO_CORES) {
            busy.isThrown(NO_CORE, x -> x.cycles(core));
            busy.isThrown(NO_CORE, x -> x.fetched(core));
            busy.isThrown(NO_CORE, x -> x.useful(core));
            busy.isThrown(NO_CORE, x -> x.wrong(core));
            fresh.isThrown(NO_CORE, x -> x.cycles(core));
        }
    }

    private static void shares() {
        fresh.isThrown(ArithmeticException.class, LineKeeper::missShare);
        fresh.isThrown(ArithmeticException.class, LineKeeper::meanCost);
    }
}
