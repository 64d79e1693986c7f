/**
 * "Layouts and accesses come by calls; states, misses and bills are asked." Each call that asks is made to a keeper
 * that then goes on as if it had not been made.
 */
public final class AskedTest {
    private static final Check check = new Check();
    private static final Twins fresh = new Twins(check, LineKeeper::new);
    private static final Twins busy = new Twins(check, Keepers::busy);

    public static void main(String[] args) {
        layouts();
        accesses();
        states();
        bills();
        linesFetchedAhead();
        aNewKeeper();
        check.end();
    }

    private static void layouts() {
        busy.due(0, x -> x.addressOf(0, 0));
        busy.due(327, x -> x.addressOf(9, 3));
        busy.due(0, x -> x.nameAt(0));
        busy.due(8, x -> x.nameAt(323));
        busy.due(9, x -> x.nameAt(324));
        busy.due(true, x -> x.meet(8, 9));
        busy.due(false, x -> x.meet(1, 0));
        busy.due(false, x -> x.meet(10, 0));
    }

    private static void accesses() {
        busy.due(13, LineKeeper::accesses);
        busy.due(40, x -> x.costOf(0));
        busy.due(1, x -> x.costOf(12));
        busy.due(40, x -> x.costByReplay(0));
        busy.due(12, x -> x.costByReplay(8));
        busy.due(1, x -> x.costByReplay(12));
        busy.due('c', x -> x.causeOf(0));
        busy.due('h', x -> x.causeOf(12));
    }

    private static void states() {
        busy.due('e', x -> x.state(0, 3));
        busy.due('m', x -> x.state(1, 6));
        busy.due('s', x -> x.state(2, 15));
        busy.due('-', x -> x.state(3, 15));
        busy.due(0, x -> x.owner(3));
        busy.due(3, x -> x.owner(40));
        busy.due(1, x -> x.holders(15));
        busy.due(0, x -> x.holders(63));
        busy.due(4, x -> x.lines(0));
        busy.due(1, x -> x.lines(3));
        busy.due(3, x -> x.oldest(0, 3));
        busy.due(15, x -> x.oldest(2, 3));
    }

    private static void bills() {
        int[] counts = {0, 0, 3, 0, 0, 0};
        for (int at = 0; at < 6; at++) {
            char cause = "hucetf".charAt(at);
            busy.due(counts[at], x -> x.count(0, cause));
        }
        busy.due(120L, x -> x.bill(0));
        busy.due(52L, x -> x.bill(3));
        busy.due(0L, x -> x.bill(10));
        busy.due(0, LineKeeper::worst);
        long[] cycles = {120, 80, 201, 24};
        for (int core = 0; core < 4; core++) {
            int c = core;
            busy.due(cycles[c], x -> x.cycles(c));
        }
        busy.due(12f / 13f, LineKeeper::missShare);
        busy.due(425.0 / 13.0, LineKeeper::meanCost);
        busy.due(true, LineKeeper::isCoherent);
    }

    private static void linesFetchedAhead() {
        for (int core = 0; core < 4; core++) {
            int c = core;
            busy.due(c == 0 ? 1 : 0, x -> x.fetched(c));
            busy.due(0, x -> x.useful(c));
            busy.due(0, x -> x.wrong(c));
        }
    }

    private static void aNewKeeper() {
        fresh.due(0, LineKeeper::accesses);
        fresh.due('-', x -> x.state(0, 0));
        fresh.due(0, x -> x.holders(63));
        fresh.due(0, x -> x.lines(3));
        fresh.due(0L, x -> x.cycles(0));
        fresh.due(0, x -> x.fetched(0));
        fresh.due(0, x -> x.useful(1));
        fresh.due(0, x -> x.wrong(2));
        fresh.due(true, LineKeeper::isCoherent);
    }
}
