import java.util.NoSuchElementException;

/** Promises 9 to 16: reads and writes, what they cost and why. */
public final class AccessesTest {
    private static final Check check = new Check();

    public static void main(String[] args) {
        promise9Read();
        promise9ReadSharesAllCopies();
        promise9ReadReplaces();
        promise10Write();
        promise10WriteReplaces();
        promises9And10WrongInputs();
        promise11Empty();
        promise12SetAhead();
        promise13Accesses();
        promises14And15Costs();
        promise15ReplaysFromTheStart();
        promise16Causes();
        promise16TheLastLeavingCounts();
        check.end();
    }

    private static void promise9Read() {
        LineKeeper x = Keepers.wholeMemory();
        check.due(40, () -> Keepers.read(x, 0, 5));
        check.due('e', () -> x.state(0, 5));
        check.due(1, () -> Keepers.read(x, 0, 5));
        check.due('e', () -> x.state(0, 5));
        check.due(12, () -> Keepers.read(x, 1, 5));
        check.due('s', () -> x.state(0, 5));
        check.due('s', () -> x.state(1, 5));
        check.due(1, () -> Keepers.read(x, 0, 5));
        check.due(1, () -> Keepers.read(x, 1, 5));
    }

    private static void promise9ReadSharesAllCopies() {
        LineKeeper x = Keepers.wholeMemory();
        check.due(40, () -> Keepers.write(x, 3, 0));
        check.due(12, () -> Keepers.read(x, 2, 0));
        check.due('s', () -> x.state(3, 0));
        check.due(12, () -> Keepers.read(x, 1, 0));
        check.due(12, () -> Keepers.read(x, 0, 0));
        check.due(4, () -> x.holders(0));
        check.isThrown(NoSuchElementException.class, () -> x.owner(0));
        x.empty(3);
        x.empty(2);
        x.empty(1);
        check.due('s', () -> x.state(0, 0));
        check.due(1, () -> Keepers.read(x, 0, 0));
        check.due('s', () -> x.state(0, 0));
        check.due(12, () -> Keepers.read(x, 1, 0));
    }

    private static void promise9ReadReplaces() {
        LineKeeper x = Keepers.wholeMemory();
        check.due(40, () -> Keepers.write(x, 0, 1));
        check.due(40, () -> Keepers.read(x, 0, 5));
        check.due(45, () -> Keepers.read(x, 0, 9));
        check.due('-', () -> x.state(0, 1));
        check.due(40, () -> Keepers.read(x, 0, 13));
        check.due('-', () -> x.state(0, 5));
        check.due(1, () -> Keepers.write(x, 0, 9));
        check.due(40, () -> Keepers.read(x, 1, 17));
        check.due(12, () -> Keepers.read(x, 0, 17));
        check.due('-', () -> x.state(0, 13));
        check.due(40, () -> Keepers.write(x, 1, 21));
        check.due(17, () -> Keepers.read(x, 0, 21));
        check.due('-', () -> x.state(0, 9));
        check.due('s', () -> x.state(1, 21));
    }

    private static void promise10Write() {
        LineKeeper x = Keepers.wholeMemory();
        check.due(40, () -> Keepers.write(x, 0, 5));
        check.due('m', () -> x.state(0, 5));
        check.due(1, () -> Keepers.write(x, 0, 5));
        check.due(12, () -> Keepers.write(x, 1, 5));
        check.due('-', () -> x.state(0, 5));
        check.due('m', () -> x.state(1, 5));
        check.due(40, () -> Keepers.read(x, 2, 6));
        check.due(1, () -> Keepers.write(x, 2, 6));
        check.due('m', () -> x.state(2, 6));
        check.due(12, () -> Keepers.read(x, 0, 6));
        check.due(12, () -> Keepers.read(x, 3, 6));
        check.due(8, () -> Keepers.write(x, 3, 6));
        check.due('m', () -> x.state(3, 6));
        check.due(1, () -> x.holders(6));
        check.due(40, () -> Keepers.read(x, 0, 10));
        check.due(12, () -> Keepers.read(x, 1, 10));
        x.empty(0);
        check.due('s', () -> x.state(1, 10));
        check.due(8, () -> Keepers.write(x, 1, 10));
        check.due(1, () -> Keepers.write(x, 1, 10));
    }

    private static void promise10WriteReplaces() {
        LineKeeper x = Keepers.wholeMemory();
        check.due(40, () -> Keepers.write(x, 0, 2));
        check.due(40, () -> Keepers.write(x, 0, 6));
        check.due(45, () -> Keepers.write(x, 0, 10));
        check.due(40, () -> Keepers.read(x, 1, 14));
        check.due(17, () -> Keepers.write(x, 0, 14));
        check.due('-', () -> x.state(1, 14));
        check.due(12, () -> Keepers.write(x, 1, 14));
        check.due(40, () -> Keepers.write(x, 0, 18));
        check.due(1, () -> Keepers.read(x, 0, 10));
        check.due(45, () -> Keepers.write(x, 0, 2));
        check.due('m', () -> x.state(0, 10));
        check.due('-', () -> x.state(0, 18));
    }

    private static void promises9And10WrongInputs() {
        LineKeeper x = new LineKeeper();
        x.addName(4);
        check.isThrown(IndexOutOfBoundsException.class, () -> x.read(4, 9, 9));
        check.isThrown(IndexOutOfBoundsException.class, () -> x.read(-1, 0, 0));
        check.isThrown(NoSuchElementException.class, () -> x.read(3, 1, 9));
        check.isThrown(NoSuchElementException.class, () -> x.read(3, -1, 0));
        check.isThrown(IllegalStateException.class, () -> x.read(0, 0, 4));
        check.isThrown(IndexOutOfBoundsException.class, () -> x.write(4, 9, 9));
        check.isThrown(IndexOutOfBoundsException.class, () -> x.write(Integer.MIN_VALUE, 0, 0));
        check.isThrown(NoSuchElementException.class, () -> x.write(3, 12, 9));
        check.isThrown(IllegalStateException.class, () -> x.write(0, 0, -1));
        x.place(0, 4);
        check.isThrown(IllegalArgumentException.class, () -> x.read(0, 0, 4));
        check.isThrown(IllegalArgumentException.class, () -> x.read(0, 0, -1));
        check.isThrown(IllegalArgumentException.class, () -> x.write(3, 0, 4));
        check.isThrown(IllegalArgumentException.class, () -> x.write(3, 0, Integer.MAX_VALUE));
        check.due(0, x::accesses);
        check.due(0, () -> x.holders(0));
        check.due(40, () -> x.write(3, 0, 3));
        check.due(12, () -> x.read(0, 0, 0));
    }

    private static void promise11Empty() {
        LineKeeper x = Keepers.wholeMemory();
        check.isThrown(IndexOutOfBoundsException.class, () -> x.empty(4));
        check.isThrown(IndexOutOfBoundsException.class, () -> x.empty(-1));
        check.due(0, () -> x.empty(0));
        Keepers.write(x, 0, 1);
        Keepers.write(x, 0, 5);
        Keepers.read(x, 0, 2);
        Keepers.write(x, 1, 3);
        check.due(2, () -> x.empty(0));
        check.due(0, () -> x.lines(0));
        check.due(1, () -> x.lines(1));
        check.due('m', () -> x.state(1, 3));
        check.due(0, () -> x.empty(0));
        check.due(40, () -> Keepers.read(x, 0, 1));
        check.due('e', () -> x.causeOf(4));
        check.due(5, x::accesses);
        check.due(0, () -> x.empty(0));
        check.due(1, () -> x.empty(1));
    }

    private static void promise12SetAhead() {
        LineKeeper x = Keepers.wholeMemory();
        check.isThrown(IndexOutOfBoundsException.class, () -> x.setAhead(4, true));
        check.isThrown(IndexOutOfBoundsException.class, () -> x.setAhead(-1, false));
        check.due(false, () -> x.setAhead(2, true));
        check.due(false, () -> x.setAhead(1, false));
        check.due(true, () -> x.setAhead(2, true));
        check.due(true, () -> x.setAhead(2, false));
        check.due(false, () -> x.setAhead(2, true));
        Keepers.read(x, 2, 0);
        Keepers.read(x, 2, 1);
        check.due(true, () -> x.setAhead(2, true));
        Keepers.read(x, 2, 2);
        Keepers.read(x, 2, 3);
        check.due(0, () -> x.fetched(2));
        Keepers.read(x, 2, 4);
        check.due(1, () -> x.fetched(2));
        check.due('e', () -> x.state(2, 5));
        check.due(true, () -> x.setAhead(2, false));
        check.due(1, () -> x.fetched(2));
        check.due(1, () -> Keepers.read(x, 2, 5));
        check.due(1, () -> x.useful(2));
    }

    private static void promise13Accesses() {
        LineKeeper x = Keepers.wholeMemory();
        check.due(0, x::accesses);
        Keepers.read(x, 0, 0);
        check.due(1, x::accesses);
        Keepers.write(x, 0, 0);
        check.due(2, x::accesses);
        x.empty(0);
        x.setAhead(0, true);
        check.isThrown(NoSuchElementException.class, () -> x.read(0, 12, 0));
        check.due(2, x::accesses);
    }

    private static void promises14And15Costs() {
        LineKeeper x = Keepers.wholeMemory();
        check.isThrown(NoSuchElementException.class, () -> x.costOf(0));
        check.isThrown(NoSuchElementException.class, () -> x.costByReplay(0));
        Keepers.write(x, 0, 0);
        x.setAhead(1, true);
        Keepers.read(x, 1, 0);
        Keepers.write(x, 1, 0);
        x.empty(1);
        Keepers.write(x, 1, 4);
        x.take(0);
        Keepers.write(x, 1, 8);
        Keepers.read(x, 1, 12);
        Keepers.read(x, 1, 16);
        Keepers.read(x, 1, 16);
        x.setAhead(1, false);
        int[] costs = {40, 12, 8, 40, 40, 1, 45, 1};
        for (int index = 0; index < costs.length; index++) {
            int i = index;
            check.due(costs[i], () -> x.costOf(i));
            check.due(costs[i], () -> x.costByReplay(i));
        }
        for (int index = costs.length - 1; index >= 0; index--) {
            int i = index;
            check.due(costs[i], () -> x.costByReplay(i));
        }
        check.due(8, x::accesses);
        for (int index : new int[] {-1, 8, 512, Integer.MIN_VALUE, Integer.MAX_VALUE}) {
            check.isThrown(NoSuchElementException.class, () -> x.costOf(index));
            check.isThrown(NoSuchElementException.class, () -> x.costByReplay(index));
        }
    }

    private static void promise15ReplaysFromTheStart() {
        LineKeeper x = Keepers.wholeMemory();
        for (int line = 0; line < 4; line++) {
            Keepers.read(x, 0, line);
        }
        x.empty(0);
        x.setAhead(0, true);
        for (int line = 0; line < 4; line++) {
            Keepers.read(x, 0, line);
        }
        int[] costs = {40, 40, 40, 40, 40, 40, 40, 1};
        for (int turn = 0; turn < 3; turn++) {
            for (int index = 0; index < costs.length; index++) {
                int i = index;
                check.due(costs[i], () -> x.costByReplay(i));
            }
            check.due(true, x::isCoherent);
        }
        check.due(8, x::accesses);
        check.due(1, () -> x.fetched(0));
    }

    private static void promise16Causes() {
        LineKeeper x = new LineKeeper();
        check.isThrown(NoSuchElementException.class, () -> x.causeOf(0));
        x.addName(4);
        x.addName(4);
        x.link(1);
        x.read(0, 0, 0);
        x.read(0, 1, 0);
        x.read(1, 1, 0);
        x.write(1, 1, 0);
        x.write(1, 0, 0);
        x.read(0, 0, 3);
        x.write(1, 1, 0);
        x.read(0, 0, 3);
        x.empty(0);
        x.write(0, 1, 0);
        x.read(1, 1, 0);
        String causes = "chcuhfufet";
        check.due(causes.length(), x::accesses);
        for (int index = 0; index < causes.length(); index++) {
            int i = index;
            check.due(causes.charAt(i), () -> x.causeOf(i));
        }
        check.isThrown(NoSuchElementException.class, () -> x.causeOf(causes.length()));
        check.isThrown(NoSuchElementException.class, () -> x.causeOf(-1));
    }

    private static void promise16TheLastLeavingCounts() {
        LineKeeper x = new LineKeeper();
        for (int name = 0; name < 4; name++) {
            x.addName(2);
        }
        x.link(1);
        x.addName(8);
        x.addName(8);
        x.place(4, 32);
        x.place(5, 64);
        x.read(0, 0, 0);
        x.write(1, 1, 0);
        check.due(12, () -> x.read(0, 1, 1));
        check.due('t', () -> x.causeOf(2));
        x.read(0, 4, 0);
        x.read(0, 5, 0);
        check.due('-', () -> x.state(0, 0));
        x.read(0, 0, 0);
        check.due('e', () -> x.causeOf(5));
        x.write(2, 2, 0);
        x.write(3, 3, 0);
        x.read(0, 2, 0);
        check.due('t', () -> x.causeOf(8));
        x.read(1, 2, 0);
        check.due('t', () -> x.causeOf(9));
        x.read(2, 2, 0);
        check.due('f', () -> x.causeOf(10));
        x.take(2);
        x.place(2, 100);
        x.read(0, 2, 0);
        check.due('c', () -> x.causeOf(11));
    }
}
