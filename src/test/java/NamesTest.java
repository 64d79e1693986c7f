import java.util.NoSuchElementException;

/** Promises 1 to 8: a new object, names and layouts. */
public final class NamesTest {
    private static final Check check = new Check();

    public static void main(String[] args) {
        promise1NewObject();
        promise2AddName();
        promise3Place();
        promise3Overlaps();
        promise4Link();
        promise4LinkFindsTheLowest();
        promise4LinkChangesNothingWhenItThrows();
        promise5Take();
        promise6AddressOf();
        promise7NameAt();
        promise8Meet();
        check.end();
    }

    private static void promise1NewObject() {
        LineKeeper x = new LineKeeper();
        for (int core = 0; core < 4; core++) {
            int c = core;
            check.due(0, () -> x.lines(c));
            check.due(0L, () -> x.cycles(c));
            check.due(0, () -> x.fetched(c));
            check.due(0, () -> x.useful(c));
            check.due(0, () -> x.wrong(c));
            check.due('-', () -> x.state(c, 63));
            check.due(0, () -> x.empty(c));
        }
        check.isThrown(IndexOutOfBoundsException.class, () -> x.lines(4));
        check.due(0, x::accesses);
        check.isThrown(NoSuchElementException.class, x::worst);
        check.isThrown(NoSuchElementException.class, () -> x.nameAt(0));
        check.isThrown(NoSuchElementException.class, () -> x.nameAt(511));
        check.due(true, x::isCoherent);
        for (int core = 0; core < 4; core++) {
            int c = core;
            check.due(false, () -> x.setAhead(c, false));
        }
    }

    private static void promise2AddName() {
        LineKeeper x = new LineKeeper();
        check.isThrown(IllegalArgumentException.class, () -> x.addName(0));
        check.isThrown(IllegalArgumentException.class, () -> x.addName(33));
        check.isThrown(IllegalArgumentException.class, () -> x.addName(-1));
        check.isThrown(IllegalArgumentException.class, () -> x.addName(Integer.MIN_VALUE));
        check.isThrown(IllegalArgumentException.class, () -> x.addName(Integer.MAX_VALUE));
        for (int name = 0; name < 12; name++) {
            int words = name % 2 == 0 ? 1 : 32;
            check.due(name, () -> x.addName(words));
        }
        check.isThrown(IllegalStateException.class, () -> x.addName(1));
        check.isThrown(IllegalArgumentException.class, () -> x.addName(33));
        check.isThrown(IllegalStateException.class, () -> x.take(11));
        check.isThrown(NoSuchElementException.class, () -> x.take(12));
        check.isThrown(NoSuchElementException.class, () -> x.nameAt(0));
    }

    private static void promise3Place() {
        LineKeeper x = withNames(32, 1, 8);
        check.isThrown(NoSuchElementException.class, () -> x.place(3, 0));
        check.isThrown(NoSuchElementException.class, () -> x.place(-1, 600));
        check.isThrown(NoSuchElementException.class, () -> x.place(Integer.MAX_VALUE, 0));
        check.isThrown(IllegalArgumentException.class, () -> x.place(0, -1));
        check.isThrown(IllegalArgumentException.class, () -> x.place(0, 481));
        check.isThrown(IllegalArgumentException.class, () -> x.place(0, 512));
        check.isThrown(IllegalArgumentException.class, () -> x.place(0, Integer.MAX_VALUE));
        check.isThrown(IllegalArgumentException.class, () -> x.place(0, Integer.MIN_VALUE));
        check.isThrown(IllegalStateException.class, () -> x.take(0));
        check.due(60, () -> x.place(0, 480));
        check.isThrown(IllegalStateException.class, () -> x.place(0, 480));
        check.isThrown(IllegalStateException.class, () -> x.place(0, 0));
        check.isThrown(IllegalArgumentException.class, () -> x.place(0, 481));
        check.due(480, () -> x.take(0));
        check.due(63, () -> x.place(1, 511));
        check.due(0, () -> x.place(2, 7));
        check.due(7, () -> x.addressOf(2, 0));
    }

    private static void promise3Overlaps() {
        LineKeeper x = withNames(4, 4, 8, 1);
        x.place(0, 100);
        check.isThrown(IllegalStateException.class, () -> x.place(1, 97));
        check.isThrown(IllegalStateException.class, () -> x.place(1, 103));
        check.isThrown(IllegalStateException.class, () -> x.place(2, 98));
        check.isThrown(IllegalStateException.class, () -> x.place(3, 101));
        check.due(12, () -> x.place(1, 96));
        check.due(13, () -> x.place(2, 104));
        check.due(96, () -> x.take(1));
        check.due(12, () -> x.place(3, 99));
    }

    private static void promise4Link() {
        LineKeeper x = new LineKeeper();
        check.isThrown(IllegalArgumentException.class, () -> x.link(0));
        check.isThrown(IllegalArgumentException.class, () -> x.link(-8));
        check.isThrown(IllegalArgumentException.class, () -> x.link(65));
        check.isThrown(IllegalArgumentException.class, () -> x.link(Integer.MIN_VALUE));
        check.due(0, () -> x.link(1));
        x.addName(5);
        x.addName(3);
        check.due(2, () -> x.link(64));
        check.due(0, () -> x.addressOf(0, 0));
        check.due(64, () -> x.addressOf(1, 0));
        check.due(0, () -> x.link(64));
        check.due(0, () -> x.link(1));
        check.isThrown(IllegalArgumentException.class, () -> x.link(65));
    }

    private static void promise4LinkFindsTheLowest() {
        LineKeeper x = withNames(10, 6, 2, 4);
        x.place(0, 3);
        check.due(3, () -> x.link(1));
        check.due(13, () -> x.addressOf(1, 0));
        check.due(0, () -> x.addressOf(2, 0));
        check.due(19, () -> x.addressOf(3, 0));
        x.take(2);
        x.take(3);
        check.due(2, () -> x.link(7));
        check.due(0, () -> x.addressOf(2, 0));
        check.due(21, () -> x.addressOf(3, 0));
        LineKeeper y = withNames(1, 32);
        y.place(0, 0);
        check.due(1, () -> y.link(64));
        check.due(64, () -> y.addressOf(1, 0));
    }

    private static void promise4LinkChangesNothingWhenItThrows() {
        LineKeeper x = new LineKeeper();
        for (int name = 0; name < 12; name++) {
            x.addName(32);
        }
        check.isThrown(UnsupportedOperationException.class, () -> x.link(64));
        check.isThrown(UnsupportedOperationException.class, () -> x.link(44));
        for (int name = 0; name < 12; name++) {
            int n = name;
            check.isThrown(IllegalStateException.class, () -> x.addressOf(n, 0));
        }
        check.isThrown(NoSuchElementException.class, () -> x.nameAt(0));
        x.place(11, 480);
        check.isThrown(UnsupportedOperationException.class, () -> x.link(64));
        check.due(480, () -> x.addressOf(11, 0));
        check.isThrown(IllegalStateException.class, () -> x.addressOf(0, 0));
        check.due(11, () -> x.link(43));
        check.due(430, () -> x.addressOf(10, 0));
    }

    private static void promise5Take() {
        LineKeeper x = withNames(4);
        check.isThrown(NoSuchElementException.class, () -> x.take(1));
        check.isThrown(NoSuchElementException.class, () -> x.take(-1));
        check.isThrown(IllegalStateException.class, () -> x.take(0));
        x.place(0, 20);
        check.due(40, () -> x.write(1, 0, 0));
        check.due(20, () -> x.take(0));
        check.isThrown(IllegalStateException.class, () -> x.take(0));
        check.isThrown(NoSuchElementException.class, () -> x.nameAt(20));
        check.due('m', () -> x.state(1, 2));
        check.due(40L, () -> x.bill(0));
        check.due(2, () -> x.place(0, 21));
        check.due(1, () -> x.read(1, 0, 0));
    }

    private static void promise6AddressOf() {
        LineKeeper x = withNames(4);
        check.isThrown(NoSuchElementException.class, () -> x.addressOf(1, 9));
        check.isThrown(NoSuchElementException.class, () -> x.addressOf(-1, 0));
        check.isThrown(IllegalStateException.class, () -> x.addressOf(0, 0));
        check.isThrown(IllegalStateException.class, () -> x.addressOf(0, 4));
        x.place(0, 508);
        check.due(508, () -> x.addressOf(0, 0));
        check.due(511, () -> x.addressOf(0, 3));
        check.isThrown(IllegalArgumentException.class, () -> x.addressOf(0, 4));
        check.isThrown(IllegalArgumentException.class, () -> x.addressOf(0, -1));
        check.isThrown(IllegalArgumentException.class, () -> x.addressOf(0, Integer.MAX_VALUE));
    }

    private static void promise7NameAt() {
        LineKeeper x = withNames(4, 2);
        x.place(0, 508);
        x.place(1, 0);
        check.isThrown(IllegalArgumentException.class, () -> x.nameAt(-1));
        check.isThrown(IllegalArgumentException.class, () -> x.nameAt(512));
        check.isThrown(NoSuchElementException.class, () -> x.nameAt(507));
        check.due(0, () -> x.nameAt(508));
        check.due(0, () -> x.nameAt(511));
        check.due(1, () -> x.nameAt(0));
        check.due(1, () -> x.nameAt(1));
        check.isThrown(NoSuchElementException.class, () -> x.nameAt(2));
    }

    private static void promise8Meet() {
        LineKeeper x = withNames(4, 9, 1);
        check.isThrown(NoSuchElementException.class, () -> x.meet(3, 0));
        check.isThrown(NoSuchElementException.class, () -> x.meet(0, 3));
        check.isThrown(NoSuchElementException.class, () -> x.meet(3, 3));
        check.isThrown(NoSuchElementException.class, () -> x.meet(-1, 0));
        check.isThrown(IllegalArgumentException.class, () -> x.meet(0, 0));
        check.due(false, () -> x.meet(0, 1));
        x.place(0, 8);
        check.due(false, () -> x.meet(0, 1));
        check.due(false, () -> x.meet(1, 0));
        x.place(1, 15);
        check.due(true, () -> x.meet(0, 1));
        check.due(true, () -> x.meet(1, 0));
        check.isThrown(IllegalArgumentException.class, () -> x.meet(1, 1));
        x.place(2, 24);
        check.due(false, () -> x.meet(1, 2));
        x.take(2);
        check.due(false, () -> x.meet(1, 2));
        x.take(1);
        x.place(1, 16);
        check.due(false, () -> x.meet(0, 1));
        x.place(2, 31);
        check.due(true, () -> x.meet(2, 1));
        LineKeeper y = withNames(32, 1);
        y.place(0, 4);
        y.place(1, 3);
        check.due(true, () -> y.meet(0, 1));
        y.take(1);
        y.place(1, 36);
        check.due(true, () -> y.meet(1, 0));
        y.take(1);
        y.place(1, 40);
        check.due(false, () -> y.meet(1, 0));
    }

    private static LineKeeper withNames(int... words) {
        LineKeeper x = new LineKeeper();
        for (int count : words) {
            x.addName(count);
        }
        return x;
    }
}
