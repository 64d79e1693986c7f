import java.util.NoSuchElementException;

/** Promises 17 to 21: which lines are in which cache. */
public final class StatesTest {
    private static final Check check = new Check();

    public static void main(String[] args) {
        promise17State();
        promise18Owner();
        promise19Holders();
        promise20Lines();
        promise21Oldest();
        check.end();
    }

    private static void promise17State() {
        LineKeeper x = Keepers.wholeMemory();
        check.isThrown(IndexOutOfBoundsException.class, () -> x.state(4, 64));
        check.isThrown(IndexOutOfBoundsException.class, () -> x.state(-1, 0));
        check.isThrown(IllegalArgumentException.class, () -> x.state(0, 64));
        check.isThrown(IllegalArgumentException.class, () -> x.state(3, -1));
        check.due('-', () -> x.state(0, 0));
        check.due('-', () -> x.state(3, 63));
        Keepers.read(x, 3, 47);
        check.due('e', () -> x.state(3, 47));
        Keepers.read(x, 0, 47);
        check.due('s', () -> x.state(3, 47));
        check.due('s', () -> x.state(0, 47));
        check.due('-', () -> x.state(1, 47));
        Keepers.write(x, 1, 47);
        check.due('m', () -> x.state(1, 47));
        check.due('-', () -> x.state(3, 47));
        check.due('-', () -> x.state(0, 47));
        x.take(11);
        x.place(11, 480);
        Keepers.write(x, 2, 47);
        check.due('m', () -> x.state(2, 63));
    }

    private static void promise18Owner() {
        LineKeeper x = Keepers.wholeMemory();
        check.isThrown(IllegalArgumentException.class, () -> x.owner(-1));
        check.isThrown(IllegalArgumentException.class, () -> x.owner(64));
        check.isThrown(NoSuchElementException.class, () -> x.owner(0));
        check.isThrown(NoSuchElementException.class, () -> x.owner(63));
        Keepers.read(x, 3, 0);
        check.due(3, () -> x.owner(0));
        Keepers.read(x, 1, 0);
        check.isThrown(NoSuchElementException.class, () -> x.owner(0));
        Keepers.write(x, 1, 0);
        check.due(1, () -> x.owner(0));
        Keepers.write(x, 0, 0);
        check.due(0, () -> x.owner(0));
        x.empty(0);
        check.isThrown(NoSuchElementException.class, () -> x.owner(0));
    }

    private static void promise19Holders() {
        LineKeeper x = Keepers.wholeMemory();
        check.isThrown(IllegalArgumentException.class, () -> x.holders(-1));
        check.isThrown(IllegalArgumentException.class, () -> x.holders(64));
        check.due(0, () -> x.holders(0));
        check.due(0, () -> x.holders(63));
        for (int core = 0; core < 4; core++) {
            int c = core;
            Keepers.read(x, c, 7);
            check.due(c + 1, () -> x.holders(7));
        }
        x.empty(2);
        check.due(3, () -> x.holders(7));
        Keepers.write(x, 2, 7);
        check.due(1, () -> x.holders(7));
        check.due(0, () -> x.holders(8));
    }

    private static void promise20Lines() {
        LineKeeper x = Keepers.wholeMemory();
        check.isThrown(IndexOutOfBoundsException.class, () -> x.lines(-1));
        check.isThrown(IndexOutOfBoundsException.class, () -> x.lines(4));
        for (int line = 0; line < 8; line++) {
            int l = line;
            check.due(l, () -> x.lines(0));
            Keepers.read(x, 0, l);
        }
        check.due(8, () -> x.lines(0));
        Keepers.write(x, 0, 20);
        check.due(8, () -> x.lines(0));
        check.due(0, () -> x.lines(1));
        Keepers.write(x, 3, 20);
        check.due(7, () -> x.lines(0));
        check.due(1, () -> x.lines(3));
        x.empty(0);
        check.due(0, () -> x.lines(0));
    }

    private static void promise21Oldest() {
        LineKeeper x = Keepers.wholeMemory();
        check.isThrown(IndexOutOfBoundsException.class, () -> x.oldest(4, 4));
        check.isThrown(IndexOutOfBoundsException.class, () -> x.oldest(-1, 0));
        check.isThrown(IllegalArgumentException.class, () -> x.oldest(0, 4));
        check.isThrown(IllegalArgumentException.class, () -> x.oldest(0, -1));
        check.isThrown(NoSuchElementException.class, () -> x.oldest(3, 3));
        Keepers.read(x, 3, 39);
        check.due(39, () -> x.oldest(3, 3));
        Keepers.read(x, 3, 3);
        check.due(39, () -> x.oldest(3, 3));
        Keepers.read(x, 3, 39);
        check.due(3, () -> x.oldest(3, 3));
        Keepers.write(x, 3, 3);
        check.due(39, () -> x.oldest(3, 3));
        Keepers.write(x, 3, 39);
        check.due(3, () -> x.oldest(3, 3));
        Keepers.read(x, 0, 39);
        check.due(3, () -> x.oldest(3, 3));
        Keepers.read(x, 3, 7);
        check.due('-', () -> x.state(3, 3));
        check.due(39, () -> x.oldest(3, 3));
        Keepers.write(x, 0, 39);
        check.due(7, () -> x.oldest(3, 3));
        check.isThrown(NoSuchElementException.class, () -> x.oldest(3, 2));
        x.empty(3);
        check.isThrown(NoSuchElementException.class, () -> x.oldest(3, 3));
    }
}
