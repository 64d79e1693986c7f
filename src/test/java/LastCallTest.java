/** "An object is used for at most 512 calls after it has been made": the last of them is answered as any other. */
public final class LastCallTest {
    private static final int CALLS = 512;
    private static final Check check = new Check();

    private interface LastCall {
        Object make(LineKeeper x);
    }

    public static void main(String[] args) {
        theLastCallIsAnAccess();
        theLastCallAsksForAccesses();
        theLastCallAsksForBills();
        theLastCallAsksForStates();
        theLastCallChangesNames();
        theLastCallEmptiesOrSets();
        theLastCallIsRefused();
        allCallsAreRefused();
        allCallsEmptyOrSet();
        check.end();
    }

    /** All but some of its calls are made: core 0 writes line 1, and then cores 1 and 0 write line 0 in turn. */
    private static LineKeeper usedBut(int calls) {
        LineKeeper x = Keepers.withNames(16);
        x.link(1);
        x.write(0, 0, 8);
        for (int call = 3; call < CALLS - calls; call++) {
            x.write(call % 2, 0, 0);
        }
        return x;
    }

    private static void dueAtLast(Object want, LastCall call) {
        LineKeeper x = usedBut(1);
        check.due(want, () -> call.make(x));
    }

    private static void theLastCallIsAnAccess() {
        dueAtLast(12, x -> x.read(1, 0, 7));
        dueAtLast(1, x -> x.read(0, 0, 7));
        dueAtLast(12, x -> x.write(2, 0, 7));
        dueAtLast(1, x -> x.write(0, 0, 15));
        LineKeeper x = usedBut(2);
        check.due(12, () -> x.read(3, 0, 0));
        check.due(8, () -> x.write(3, 0, 0));
    }

    private static void theLastCallAsksForAccesses() {
        dueAtLast(509, LineKeeper::accesses);
        dueAtLast(40, x -> x.costOf(0));
        dueAtLast(12, x -> x.costOf(508));
        dueAtLast(40, x -> x.costByReplay(1));
        dueAtLast(12, x -> x.costByReplay(508));
        dueAtLast('c', x -> x.causeOf(0));
        dueAtLast('t', x -> x.causeOf(508));
        dueAtLast("throws.java.util.NoSuchElementException", x -> Check.outcomeOf(() -> x.costByReplay(509)));
        LineKeeper x = usedBut(2);
        check.due(12, () -> x.write(3, 0, 0));
        check.due(12, () -> x.costByReplay(508));
    }

    private static void theLastCallAsksForBills() {
        dueAtLast(506, x -> x.count(0, 't'));
        dueAtLast(3, x -> x.count(0, 'c'));
        dueAtLast(2 * 40L + 507 * 12L, x -> x.bill(0));
        dueAtLast(0, LineKeeper::worst);
        dueAtLast(40L + 254 * 12L, x -> x.cycles(0));
        dueAtLast(0L, x -> x.cycles(3));
        dueAtLast(1.0f, LineKeeper::missShare);
        dueAtLast((2 * 40.0 + 507 * 12.0) / 509.0, LineKeeper::meanCost);
        dueAtLast(true, LineKeeper::isCoherent);
        dueAtLast(0, x -> x.fetched(0));
        dueAtLast(0, x -> x.useful(0));
        dueAtLast(0, x -> x.wrong(0));
    }

    private static void theLastCallAsksForStates() {
        dueAtLast('m', x -> x.state(0, 0));
        dueAtLast('-', x -> x.state(1, 0));
        dueAtLast(0, x -> x.owner(0));
        dueAtLast(1, x -> x.holders(0));
        dueAtLast(2, x -> x.lines(0));
        dueAtLast(1, x -> x.oldest(0, 1));
        dueAtLast(15, x -> x.addressOf(0, 15));
        dueAtLast(0, x -> x.nameAt(15));
    }

    private static void theLastCallChangesNames() {
        dueAtLast(1, x -> x.addName(32));
        dueAtLast(0, x -> x.link(64));
        dueAtLast(0, x -> x.take(0));
        LineKeeper x = usedBut(2);
        x.take(0);
        check.due(62, () -> x.place(0, 496));
        LineKeeper y = usedBut(3);
        check.due(1, () -> y.addName(1));
        check.due(1, () -> y.link(16));
        check.due(false, () -> y.meet(0, 1));
    }

    private static void theLastCallEmptiesOrSets() {
        dueAtLast(2, x -> x.empty(0));
        dueAtLast(0, x -> x.empty(1));
        dueAtLast(false, x -> x.setAhead(0, true));
        LineKeeper x = usedBut(2);
        check.due(1, () -> x.empty(0));
        check.due(0, () -> x.lines(0));
        LineKeeper y = usedBut(2);
        check.due(false, () -> y.setAhead(0, true));
        check.due(true, () -> y.setAhead(0, false));
    }

    private static void theLastCallIsRefused() {
        LineKeeper x = usedBut(1);
        check.isThrown(IllegalArgumentException.class, () -> x.read(0, 0, 16));
        LineKeeper y = usedBut(1);
        check.isThrown(IllegalStateException.class, () -> y.place(0, 0));
        LineKeeper z = usedBut(1);
        check.isThrown(java.util.NoSuchElementException.class, () -> z.write(0, 1, 0));
    }

    private static void allCallsAreRefused() {
        LineKeeper x = new LineKeeper();
        for (int call = 0; call < CALLS - 4; call++) {
            int c = call;
            check.isThrown(java.util.NoSuchElementException.class, () -> x.read(c % 4, c % 12, 0));
        }
        check.due(0, () -> x.addName(8));
        check.due(0, () -> x.place(0, 0));
        check.due(40, () -> x.read(0, 0, 0));
        check.due(1, x::accesses);
        LineKeeper y = new LineKeeper();
        for (int call = 0; call < CALLS; call++) {
            if (call < 12) {
                y.addName(32);
            } else {
                check.isThrown(IllegalStateException.class, () -> y.addName(32));
            }
        }
    }

    private static void allCallsEmptyOrSet() {
        LineKeeper x = new LineKeeper();
        for (int call = 0; call < CALLS; call++) {
            boolean isAhead = call % 3 != 0;
            boolean wasAhead = call > 0 && (call - 1) % 3 != 0;
            check.due(wasAhead, () -> x.setAhead(3, isAhead));
        }
        LineKeeper y = Keepers.withNames(8);
        y.place(0, 504);
        for (int call = 2; call < CALLS; call += 2) {
            check.due(40, () -> y.write(0, 0, 0));
            check.due(1, () -> y.empty(0));
        }
    }
}
