import java.lang.reflect.Field;
import java.util.List;
import java.util.NoSuchElementException;

/** Promises 22 to 31: misses, bills, lines fetched ahead, and whether all is coherent. */
public final class BillsTest {
    private static final Check check = new Check();

    public static void main(String[] args) throws ReflectiveOperationException {
        promise22Count();
        promises23And24Bills();
        promise25Cycles();
        promise26Fetched();
        promise26StepsThatAreNotFollowed();
        promise26LinesThatAreNotFetched();
        promise26FetchingReplaces();
        promise26WhatIsFetchedIsShared();
        promise27Useful();
        promise28Wrong();
        promise29MissShare();
        promise30MeanCost();
        promise31IsCoherent();
        promise31SeesWhatIsNotCoherent();
        promise31SeesTheLastLineAndTheLastAccess();
        promise15ReplaysAndDoesNotReadWhatIsKept();
        check.end();
    }

    private static void promise22Count() {
        LineKeeper x = new LineKeeper();
        check.isThrown(NoSuchElementException.class, () -> x.count(0, 'h'));
        check.isThrown(NoSuchElementException.class, () -> x.count(0, 'x'));
        x.addName(4);
        x.addName(4);
        for (char cause : "x-msCH\0\uffff".toCharArray()) {
            check.isThrown(IllegalArgumentException.class, () -> x.count(1, cause));
        }
        check.isThrown(NoSuchElementException.class, () -> x.count(2, 'h'));
        check.isThrown(NoSuchElementException.class, () -> x.count(-1, 'h'));
        x.link(1);
        x.read(0, 0, 0);
        x.read(0, 0, 1);
        x.read(0, 1, 0);
        x.read(0, 1, 0);
        x.write(1, 1, 0);
        x.read(0, 1, 0);
        x.write(0, 0, 0);
        x.read(1, 1, 3);
        x.empty(1);
        x.read(1, 1, 3);
        checkCounts(x, 0, 1, 1, 1, 0, 0, 0);
        checkCounts(x, 1, 2, 0, 1, 1, 1, 1);
        x.take(0);
        checkCounts(x, 0, 1, 1, 1, 0, 0, 0);
    }

    private static void checkCounts(LineKeeper x, int name, int... dues) {
        for (int at = 0; at < 6; at++) {
            char cause = "hucetf".charAt(at);
            check.due(dues[at], () -> x.count(name, cause));
        }
    }

    private static void promises23And24Bills() {
        LineKeeper x = new LineKeeper();
        check.isThrown(NoSuchElementException.class, x::worst);
        check.isThrown(NoSuchElementException.class, () -> x.bill(0));
        x.addName(8);
        check.due(0, x::worst);
        x.addName(8);
        x.addName(8);
        check.isThrown(NoSuchElementException.class, () -> x.bill(3));
        check.isThrown(NoSuchElementException.class, () -> x.bill(-1));
        check.due(0, x::worst);
        check.due(0L, () -> x.bill(2));
        x.link(1);
        x.read(0, 2, 0);
        check.due(2, x::worst);
        x.read(3, 1, 0);
        check.due(1, x::worst);
        check.due(40L, () -> x.bill(1));
        x.write(2, 2, 0);
        check.due(52L, () -> x.bill(2));
        check.due(2, x::worst);
        x.read(0, 0, 0);
        x.read(1, 0, 0);
        check.due(52L, () -> x.bill(0));
        check.due(0, x::worst);
        x.read(2, 2, 0);
        check.due(53L, () -> x.bill(2));
        check.due(2, x::worst);
    }

    private static void promise25Cycles() {
        LineKeeper x = Keepers.wholeMemory();
        check.isThrown(IndexOutOfBoundsException.class, () -> x.cycles(-1));
        check.isThrown(IndexOutOfBoundsException.class, () -> x.cycles(4));
        Keepers.read(x, 0, 0);
        Keepers.read(x, 3, 0);
        Keepers.write(x, 3, 0);
        Keepers.read(x, 3, 0);
        check.due(40L, () -> x.cycles(0));
        check.due(0L, () -> x.cycles(1));
        check.due(0L, () -> x.cycles(2));
        check.due(21L, () -> x.cycles(3));
    }

    private static void promise26Fetched() {
        LineKeeper x = Keepers.wholeMemory();
        check.isThrown(IndexOutOfBoundsException.class, () -> x.fetched(-1));
        check.isThrown(IndexOutOfBoundsException.class, () -> x.fetched(4));
        readAll(x, 0, 0, 1, 2, 3);
        check.due(0, () -> x.fetched(0));
        x.setAhead(0, true);
        readAll(x, 0, 40, 37);
        check.due(0, () -> x.fetched(0));
        Keepers.write(x, 0, 34);
        check.due(1, () -> x.fetched(0));
        check.due('e', () -> x.state(0, 31));
        check.due(0, () -> x.fetched(1));
        readAll(x, 0, 31, 28);
        check.due(1, () -> x.fetched(0));
        readAll(x, 0, 22);
        check.due(2, () -> x.fetched(0));
        check.due('e', () -> x.state(0, 16));
        x.setAhead(3, true);
        readAll(x, 3, 0, 4, 8);
        check.due(1, () -> x.fetched(3));
        check.due('e', () -> x.state(3, 12));
        check.due('-', () -> x.state(3, 4));
        check.due(8, () -> x.oldest(3, 0));
        x.setAhead(2, true);
        readAll(x, 2, 41, 37, 33);
        check.due('e', () -> x.state(2, 29));
        check.due('-', () -> x.state(2, 37));
        check.due(33, () -> x.oldest(2, 1));
    }

    private static void promise26StepsThatAreNotFollowed() {
        LineKeeper x = Keepers.wholeMemory();
        x.setAhead(0, true);
        readAll(x, 0, 0, 1, 3, 4, 6, 7);
        check.due(0, () -> x.fetched(0));
        readAll(x, 1, 30);
        Keepers.read(x, 0, 20);
        Keepers.write(x, 1, 20);
        Keepers.read(x, 0, 20);
        Keepers.write(x, 1, 20);
        Keepers.read(x, 0, 20);
        check.due(0, () -> x.fetched(0));
        readAll(x, 0, 21);
        Keepers.write(x, 1, 21);
        readAll(x, 0, 21, 22);
        check.due(0, () -> x.fetched(0));
        readAll(x, 0, 23);
        check.due(1, () -> x.fetched(0));
        check.due('e', () -> x.state(0, 24));
    }

    private static void promise26LinesThatAreNotFetched() {
        LineKeeper x = Keepers.wholeMemory();
        x.setAhead(0, true);
        readAll(x, 0, 3, 2, 1);
        check.due(1, () -> x.fetched(0));
        x.setAhead(0, true);
        readAll(x, 0, 6, 4, 11);
        readAll(x, 0, 8, 5);
        check.due(1, () -> x.fetched(0));
        check.due('e', () -> x.state(0, 2));
        LineKeeper y = Keepers.wholeMemory();
        y.take(11);
        y.place(11, 480);
        y.setAhead(1, true);
        readAll(y, 1, 45, 46, 47);
        check.due(0, () -> y.fetched(1));
        y.setAhead(1, true);
        readAll(y, 1, 4, 2);
        check.due(0, () -> y.fetched(1));
        readAll(y, 1, 0);
        check.due(0, () -> y.fetched(1));
        Keepers.read(y, 2, 11);
        Keepers.write(y, 2, 14);
        readAll(y, 1, 8, 9, 10);
        check.due(0, () -> y.fetched(1));
        check.due('e', () -> y.state(2, 11));
        check.due('-', () -> y.state(1, 11));
        y.setAhead(1, true);
        readAll(y, 1, 20, 18, 16);
        check.due(0, () -> y.fetched(1));
        check.due('m', () -> y.state(2, 14));
    }

    private static void promise26FetchingReplaces() {
        LineKeeper x = Keepers.wholeMemory();
        Keepers.write(x, 0, 3);
        Keepers.write(x, 0, 7);
        x.setAhead(0, true);
        readAll(x, 0, 8, 9);
        check.due(40, () -> Keepers.read(x, 0, 10));
        check.due('e', () -> x.state(0, 11));
        check.due('-', () -> x.state(0, 3));
        check.due('m', () -> x.state(0, 7));
        check.due(7, () -> x.oldest(0, 3));
        check.due(1, () -> Keepers.write(x, 0, 7));
        check.due(11, () -> x.oldest(0, 3));
        check.due(40, () -> Keepers.read(x, 0, 3));
        check.due('e', () -> x.causeOf(6));
        check.due(45, () -> Keepers.read(x, 0, 11));
        check.due('e', () -> x.causeOf(7));
        check.due(1, () -> x.wrong(0));
    }

    private static void promise26WhatIsFetchedIsShared() {
        LineKeeper x = Keepers.wholeMemory();
        readAll(x, 1, 3);
        readAll(x, 2, 3);
        x.setAhead(0, true);
        readAll(x, 0, 0, 1, 2);
        check.due(1, () -> x.fetched(0));
        check.due('s', () -> x.state(0, 3));
        check.due(3, () -> x.holders(3));
        check.due(8, () -> Keepers.write(x, 0, 3));
        check.due(1, () -> x.useful(0));
        check.due('u', () -> x.causeOf(5));
    }

    private static void promise27Useful() {
        LineKeeper x = Keepers.wholeMemory();
        check.isThrown(IndexOutOfBoundsException.class, () -> x.useful(-1));
        check.isThrown(IndexOutOfBoundsException.class, () -> x.useful(4));
        x.setAhead(2, true);
        readAll(x, 2, 0, 1, 2);
        check.due(0, () -> x.useful(2));
        readAll(x, 1, 3);
        check.due(0, () -> x.useful(2));
        check.due(0, () -> x.useful(1));
        check.due(1, () -> Keepers.read(x, 2, 3));
        check.due(1, () -> x.useful(2));
        check.due(8, () -> Keepers.write(x, 2, 3));
        check.due(1, () -> x.useful(2));
        x.empty(2);
        check.due(1, () -> x.useful(2));
        check.due(0, () -> x.wrong(2));
        readAll(x, 2, 10, 11, 12);
        x.setAhead(2, false);
        check.due(1, () -> Keepers.write(x, 2, 13));
        check.due(2, () -> x.useful(2));
        check.due(0, () -> x.useful(0));
    }

    private static void promise28Wrong() {
        LineKeeper x = Keepers.wholeMemory();
        check.isThrown(IndexOutOfBoundsException.class, () -> x.wrong(-1));
        check.isThrown(IndexOutOfBoundsException.class, () -> x.wrong(4));
        x.setAhead(0, true);
        readAll(x, 0, 0, 1, 2);
        check.due(0, () -> x.wrong(0));
        x.empty(0);
        check.due(1, () -> x.wrong(0));
        readAll(x, 0, 10, 11, 12);
        check.due(2, () -> x.fetched(0));
        Keepers.write(x, 3, 13);
        check.due(2, () -> x.wrong(0));
        check.due(0, () -> x.wrong(3));
        check.due(12, () -> Keepers.read(x, 0, 13));
        check.due(0, () -> x.useful(0));
        check.due('t', () -> x.causeOf(x.accesses() - 1));
        x.setAhead(0, true);
        readAll(x, 0, 20, 21, 22);
        x.setAhead(0, false);
        readAll(x, 0, 27, 31);
        check.due(4, () -> x.fetched(0));
        check.due(3, () -> x.wrong(0));
        check.due(40, () -> Keepers.read(x, 0, 23));
        check.due('e', () -> x.causeOf(x.accesses() - 1));
        check.due(0, () -> x.useful(0));
    }

    private static void promise29MissShare() {
        LineKeeper x = Keepers.wholeMemory();
        check.isThrown(ArithmeticException.class, x::missShare);
        Keepers.read(x, 0, 0);
        check.due(1f, x::missShare);
        Keepers.read(x, 0, 0);
        check.due(0.5f, x::missShare);
        Keepers.read(x, 1, 0);
        check.due(2f / 3f, x::missShare);
        Keepers.write(x, 1, 0);
        check.due(0.5f, x::missShare);
        Keepers.write(x, 0, 0);
        x.empty(0);
        Keepers.read(x, 0, 0);
        Keepers.read(x, 0, 0);
        check.due(4f / 7f, x::missShare);
    }

    private static void promise30MeanCost() {
        LineKeeper x = Keepers.wholeMemory();
        check.isThrown(ArithmeticException.class, x::meanCost);
        Keepers.read(x, 0, 0);
        check.due(40.0, x::meanCost);
        Keepers.read(x, 0, 0);
        check.due(20.5, x::meanCost);
        Keepers.read(x, 1, 0);
        check.due(53.0 / 3.0, x::meanCost);
    }

    private static void promise31IsCoherent() {
        LineKeeper x = Keepers.wholeMemory();
        check.due(true, x::isCoherent);
        x.setAhead(1, true);
        for (int turn = 0; turn < 40; turn++) {
            Keepers.read(x, turn % 4, turn * 7 % 48);
            Keepers.write(x, turn % 3, turn * 5 % 48);
            Keepers.read(x, 1, turn);
            if (turn % 9 == 0) {
                x.empty(turn % 4);
                x.take(turn % 12);
                x.link(1 + turn);
            }
            check.due(true, x::isCoherent);
        }
    }

    // The face cannot make an object that is not coherent, so the state inside is changed by force.
    private static void promise31SeesWhatIsNotCoherent() throws ReflectiveOperationException {
        LineKeeper twoOwners = used();
        statesOf(twoOwners)[64] = 'e';
        check.due(false, twoOwners::isCoherent);
        LineKeeper ownerAndSharer = used();
        statesOf(ownerAndSharer)[64] = 's';
        check.due(false, ownerAndSharer::isCoherent);
        LineKeeper otherState = used();
        statesOf(otherState)[0] = 'e';
        check.due(false, otherState::isCoherent);
        LineKeeper otherCost = used();
        setOfAccess(otherCost, 0, "cost", 41);
        check.due(false, otherCost::isCoherent);
        LineKeeper otherCause = used();
        setOfAccess(otherCause, 0, "cause", 'e');
        check.due(false, otherCause::isCoherent);
        check.due(true, used()::isCoherent);
    }

    private static void promise31SeesTheLastLineAndTheLastAccess() throws ReflectiveOperationException {
        int last = 3 * 64 + 63;
        LineKeeper empty = new LineKeeper();
        statesOf(empty)[last] = 's';
        check.due(false, empty::isCoherent);
        LineKeeper gone = usedAtLast();
        statesOf(gone)[last] = '-';
        check.due(false, gone::isCoherent);
        LineKeeper twoOwners = usedAtLast();
        statesOf(twoOwners)[63] = 'm';
        check.due(false, twoOwners::isCoherent);
        LineKeeper otherCost = usedAtLast();
        setOfAccess(otherCost, 2, "cost", 2);
        check.due(false, otherCost::isCoherent);
        LineKeeper otherCause = usedAtLast();
        setOfAccess(otherCause, 2, "cause", 'u');
        check.due(false, otherCause::isCoherent);
        check.due(true, usedAtLast()::isCoherent);
    }

    private static LineKeeper usedAtLast() {
        LineKeeper x = Keepers.onLines(0, 63);
        x.read(0, 0, 0);
        x.read(3, 1, 0);
        x.write(3, 1, 0);
        return x;
    }

    private static void promise15ReplaysAndDoesNotReadWhatIsKept() throws ReflectiveOperationException {
        LineKeeper x = used();
        setOfAccess(x, 0, "cost", 41);
        check.due(41, () -> x.costOf(0));
        check.due(40, () -> x.costByReplay(0));
    }

    private static LineKeeper used() {
        LineKeeper x = Keepers.wholeMemory();
        Keepers.write(x, 0, 0);
        return x;
    }

    private static char[] statesOf(LineKeeper x) throws ReflectiveOperationException {
        Object caches = valueOf(x, "caches");
        return (char[]) valueOf(caches, "states");
    }

    private static void setOfAccess(LineKeeper x, int index, String name, Object value)
            throws ReflectiveOperationException {
        Object access = ((List<?>) valueOf(x, "accesses")).get(index);
        Field field = access.getClass().getDeclaredField(name);
        field.setAccessible(true);
        field.set(access, value);
    }

    private static Object valueOf(Object owner, String name) throws ReflectiveOperationException {
        Field field = owner.getClass().getDeclaredField(name);
        field.setAccessible(true);
        return field.get(owner);
    }

    private static void readAll(LineKeeper x, int core, int... lines) {
        for (int line : lines) {
            Keepers.read(x, core, line);
        }
    }
}
