import java.util.NoSuchElementException;

/** The edges of the term "Causes" and of promises 13 to 16, 22 to 25, 29 and 30. */
public final class CauseEdgesTest {
    private static final Check check = new Check();

    public static void main(String[] args) {
        costsOf1AreHits();
        costsOf8AreUpgrades();
        aLineThatTheCoreNeverHadIsCold();
        aLineThatLeftAFullSet();
        aLineThatLeftByEmptying();
        aLineThatLeftByAWriteToTheSameName();
        aLineThatLeftByAWriteToAnotherName();
        theWriterMayHitMissOrUpgrade();
        theLastLeavingCounts();
        theNameIsThatOfTheWriteAndNotOfTheLine();
        theCoresOwnWritesTakeNothing();
        costsMoreDoNotChangeTheCause();
        noAccesses();
        indexesFrom0ToTheLast();
        replaysBehindEmptyingAndSetting();
        refusedAccessesAreNone();
        countsOfEachCause();
        namesWithoutAccesses();
        worstOfOneOfAllAndOfEqualOnes();
        cyclesOfEachCore();
        missShareIsAFloat();
        meanCostIsADouble();
        check.end();
    }

    private static char lastCause(LineKeeper x) {
        return x.causeOf(x.accesses() - 1);
    }

    /** The names 0 and 1 share line 0; the names 2, 3 and 4 fill the lines 4, 8 and 12 of the same set. */
    private static LineKeeper twoNamesOnOneLine() {
        LineKeeper x = Keepers.withNames(4, 4, 8, 8, 8);
        x.place(0, 0);
        x.place(1, 4);
        x.place(2, 32);
        x.place(3, 64);
        x.place(4, 96);
        return x;
    }

    private static void costsOf1AreHits() {
        LineKeeper x = Keepers.wholeMemory();
        Keepers.read(x, 0, 0);
        check.due(1, () -> Keepers.read(x, 0, 0));
        check.due('h', () -> lastCause(x));
        check.due(1, () -> Keepers.write(x, 0, 0));
        check.due('h', () -> lastCause(x));
        check.due(1, () -> Keepers.write(x, 0, 0));
        check.due('h', () -> lastCause(x));
        Keepers.read(x, 1, 0);
        check.due(1, () -> Keepers.read(x, 0, 0));
        check.due('h', () -> lastCause(x));
    }

    private static void costsOf8AreUpgrades() {
        LineKeeper x = Keepers.wholeMemory();
        Keepers.read(x, 0, 0);
        Keepers.read(x, 1, 0);
        check.due(8, () -> Keepers.write(x, 1, 0));
        check.due('u', () -> lastCause(x));
        check.due(1, () -> Keepers.write(x, 1, 0));
        check.due('h', () -> lastCause(x));
    }

    private static void aLineThatTheCoreNeverHadIsCold() {
        LineKeeper x = Keepers.wholeMemory();
        for (int core = 0; core < 4; core++) {
            int c = core;
            check.due(c == 0 ? 40 : 12, () -> Keepers.write(x, c, 0));
            check.due('c', () -> lastCause(x));
        }
        x.empty(0);
        x.empty(1);
        check.due(40, () -> Keepers.read(x, 0, 1));
        check.due('c', () -> lastCause(x));
        check.due(12, () -> Keepers.read(x, 1, 1));
        check.due('c', () -> lastCause(x));
    }

    private static void aLineThatLeftAFullSet() {
        LineKeeper x = Keepers.wholeMemory();
        Keepers.readAll(x, 0, 0, 4, 8);
        Keepers.read(x, 0, 0);
        check.due('e', () -> lastCause(x));
        Keepers.write(x, 0, 4);
        check.due('e', () -> lastCause(x));
        Keepers.write(x, 0, 12);
        check.due('c', () -> lastCause(x));
        Keepers.read(x, 1, 8);
        check.due('c', () -> lastCause(x));
        check.due(17, () -> Keepers.read(x, 0, 8));
        check.due('e', () -> lastCause(x));
    }

    private static void aLineThatLeftByEmptying() {
        LineKeeper x = Keepers.wholeMemory();
        Keepers.read(x, 0, 0);
        Keepers.write(x, 0, 1);
        Keepers.read(x, 1, 0);
        x.empty(0);
        check.due(12, () -> Keepers.read(x, 0, 0));
        check.due('e', () -> lastCause(x));
        check.due(40, () -> Keepers.write(x, 0, 1));
        check.due('e', () -> lastCause(x));
        check.due(40, () -> Keepers.write(x, 0, 2));
        check.due('c', () -> lastCause(x));
        x.empty(1);
        x.empty(1);
        Keepers.read(x, 1, 1);
        check.due('c', () -> lastCause(x));
    }

    private static void aLineThatLeftByAWriteToTheSameName() {
        LineKeeper x = twoNamesOnOneLine();
        x.read(0, 1, 0);
        x.write(1, 1, 3);
        x.read(0, 1, 0);
        check.due('t', () -> lastCause(x));
        x.write(1, 1, 3);
        x.write(0, 1, 0);
        check.due('t', () -> lastCause(x));
        x.read(1, 1, 0);
        check.due('t', () -> lastCause(x));
    }

    private static void aLineThatLeftByAWriteToAnotherName() {
        LineKeeper x = twoNamesOnOneLine();
        x.read(0, 0, 0);
        x.write(1, 1, 3);
        x.read(0, 0, 0);
        check.due('f', () -> lastCause(x));
        x.write(1, 1, 3);
        x.write(0, 0, 0);
        check.due('f', () -> lastCause(x));
        x.read(1, 1, 0);
        check.due('f', () -> lastCause(x));
        x.write(0, 0, 0);
        x.read(1, 0, 0);
        check.due('t', () -> lastCause(x));
    }

    private static void theWriterMayHitMissOrUpgrade() {
        LineKeeper x = twoNamesOnOneLine();
        x.write(0, 0, 0);
        x.write(1, 0, 0);
        check.due(12, () -> x.write(0, 1, 0));
        check.due('f', () -> lastCause(x));
        x.read(1, 0, 0);
        check.due('f', () -> lastCause(x));
        check.due(8, () -> x.write(1, 0, 0));
        check.due(1, () -> x.write(1, 1, 0));
        check.due('h', () -> lastCause(x));
        x.read(0, 0, 0);
        check.due('t', () -> lastCause(x));
    }

    private static void theLastLeavingCounts() {
        LineKeeper x = twoNamesOnOneLine();
        x.read(0, 0, 0);
        x.write(1, 1, 0);
        x.read(0, 0, 0);
        x.empty(0);
        x.write(2, 1, 0);
        x.read(0, 0, 0);
        check.due('e', () -> lastCause(x));
        x.read(0, 2, 0);
        x.read(0, 3, 0);
        x.write(1, 0, 0);
        x.read(0, 0, 0);
        check.due('e', () -> lastCause(x));
        x.write(1, 0, 0);
        x.write(2, 1, 0);
        x.read(0, 0, 0);
        check.due('t', () -> lastCause(x));
        x.write(1, 1, 0);
        x.empty(0);
        x.read(0, 0, 0);
        check.due('f', () -> lastCause(x));
    }

    private static void theNameIsThatOfTheWriteAndNotOfTheLine() {
        LineKeeper x = twoNamesOnOneLine();
        x.read(0, 0, 0);
        x.write(1, 1, 0);
        x.take(0);
        x.take(1);
        x.place(1, 0);
        x.read(0, 1, 0);
        check.due('t', () -> lastCause(x));
        x.write(1, 1, 0);
        x.take(1);
        x.place(0, 0);
        x.read(0, 0, 0);
        check.due('f', () -> lastCause(x));
        x.write(1, 0, 0);
        x.take(0);
        int late = x.addName(2);
        x.place(late, 6);
        x.read(0, late, 0);
        check.due('f', () -> lastCause(x));
        x.write(3, late, 1);
        x.read(0, late, 0);
        check.due('t', () -> lastCause(x));
    }

    private static void theCoresOwnWritesTakeNothing() {
        LineKeeper x = twoNamesOnOneLine();
        x.read(0, 0, 0);
        x.write(0, 1, 0);
        x.write(0, 0, 0);
        check.due('h', () -> lastCause(x));
        check.due(1, () -> x.read(0, 1, 0));
        x.empty(0);
        x.read(0, 0, 0);
        check.due('e', () -> lastCause(x));
    }

    private static void costsMoreDoNotChangeTheCause() {
        LineKeeper x = twoNamesOnOneLine();
        x.write(0, 0, 0);
        x.write(0, 2, 0);
        check.due(45, () -> x.read(0, 3, 0));
        check.due('c', () -> lastCause(x));
        check.due(45, () -> x.write(0, 0, 0));
        check.due('e', () -> lastCause(x));
        x.write(1, 0, 0);
        x.write(0, 2, 0);
        x.write(0, 3, 0);
        check.due(17, () -> x.read(0, 0, 0));
        check.due('t', () -> lastCause(x));
    }

    private static void noAccesses() {
        LineKeeper x = Keepers.wholeMemory();
        x.setAhead(0, true);
        x.empty(0);
        check.due(0, x::accesses);
        for (int index = -1; index < 2; index++) {
            int i = index;
            check.isThrown(NoSuchElementException.class, () -> x.costOf(i));
            check.isThrown(NoSuchElementException.class, () -> x.costByReplay(i));
            check.isThrown(NoSuchElementException.class, () -> x.causeOf(i));
        }
        check.isThrown(ArithmeticException.class, x::missShare);
        check.isThrown(ArithmeticException.class, x::meanCost);
        check.due(0L, () -> x.bill(11));
        check.due(0L, () -> x.cycles(3));
        check.due(0, x::worst);
        check.due(true, x::isCoherent);
    }

    private static void indexesFrom0ToTheLast() {
        LineKeeper x = Keepers.wholeMemory();
        int[] costs = {40, 1, 12, 8, 12};
        Keepers.read(x, 0, 0);
        Keepers.read(x, 0, 0);
        Keepers.read(x, 1, 0);
        Keepers.write(x, 1, 0);
        Keepers.write(x, 0, 0);
        for (int index = 0; index < 5; index++) {
            int i = index;
            check.due(costs[i], () -> x.costOf(i));
            check.due(costs[i], () -> x.costByReplay(i));
            check.due("chcut".charAt(i), () -> x.causeOf(i));
        }
        for (int index = 4; index >= 0; index--) {
            int i = index;
            check.due(costs[i], () -> x.costByReplay(i));
            check.due(true, x::isCoherent);
        }
        for (int index : new int[] {-1, 5, Integer.MIN_VALUE, Integer.MAX_VALUE}) {
            check.isThrown(NoSuchElementException.class, () -> x.costOf(index));
            check.isThrown(NoSuchElementException.class, () -> x.costByReplay(index));
            check.isThrown(NoSuchElementException.class, () -> x.causeOf(index));
        }
    }

    private static void replaysBehindEmptyingAndSetting() {
        LineKeeper x = Keepers.wholeMemory();
        check.due(true, x::isCoherent);
        Keepers.write(x, 0, 10);
        x.empty(0);
        Keepers.write(x, 0, 10);
        x.setAhead(0, true);
        x.setAhead(1, true);
        Keepers.readAll(x, 0, 11, 12, 13);
        x.setAhead(1, false);
        Keepers.read(x, 0, 14);
        x.setAhead(0, false);
        Keepers.readAll(x, 0, 16, 18, 20);
        Keepers.readAll(x, 1, 20, 21, 22, 23);
        x.take(0);
        x.take(2);
        x.place(2, 0);
        int[] costs = {40, 40, 40, 40, 40, 1, 40, 45, 40, 12, 40, 40, 40};
        for (int turn = 0; turn < 2; turn++) {
            for (int index = 0; index < costs.length; index++) {
                int i = index;
                check.due(costs[i], () -> x.costOf(i));
                check.due(costs[i], () -> x.costByReplay(i));
            }
            check.due(true, x::isCoherent);
        }
        check.due(costs.length, x::accesses);
    }

    private static void refusedAccessesAreNone() {
        LineKeeper x = Keepers.withNames(1, 1);
        x.place(0, 511);
        check.due(40, () -> x.read(0, 0, 0));
        check.isThrown(IndexOutOfBoundsException.class, () -> x.write(4, 0, 0));
        check.isThrown(NoSuchElementException.class, () -> x.write(0, 2, 0));
        check.isThrown(IllegalStateException.class, () -> x.write(0, 1, 0));
        check.isThrown(IllegalArgumentException.class, () -> x.write(0, 0, 1));
        check.due(1, x::accesses);
        check.due('e', () -> x.state(0, 63));
        check.due(40.0, x::meanCost);
        check.due(40L, () -> x.cycles(0));
        check.due(0L, () -> x.bill(1));
    }

    private static void countsOfEachCause() {
        LineKeeper x = twoNamesOnOneLine();
        for (char cause : "hucetf".toCharArray()) {
            check.due(0, () -> x.count(0, cause));
            check.isThrown(NoSuchElementException.class, () -> x.count(5, cause));
            check.isThrown(NoSuchElementException.class, () -> x.count(-1, cause));
        }
        x.read(0, 0, 0);
        x.read(1, 0, 0);
        x.write(0, 0, 0);
        x.write(0, 0, 0);
        x.read(1, 0, 0);
        x.write(0, 1, 0);
        x.read(1, 0, 0);
        x.empty(1);
        x.read(1, 0, 0);
        int[] dues = {1, 1, 2, 1, 1, 1};
        for (int at = 0; at < 6; at++) {
            char cause = "hucetf".charAt(at);
            check.due(dues[at], () -> x.count(0, cause));
            check.due(cause == 'u' ? 1 : 0, () -> x.count(1, cause));
            check.due(0, () -> x.count(4, cause));
        }
        for (int sign = 0; sign < 300; sign++) {
            char cause = (char) sign;
            if ("hucetf".indexOf(cause) < 0) {
                check.isThrown(IllegalArgumentException.class, () -> x.count(0, cause));
            }
        }
        check.isThrown(IllegalArgumentException.class, () -> x.count(0, '\uffff'));
        check.isThrown(NoSuchElementException.class, () -> x.count(5, '\uffff'));
    }

    private static void namesWithoutAccesses() {
        LineKeeper x = Keepers.withNames(1);
        check.due(0L, () -> x.bill(0));
        check.due(0, () -> x.count(0, 'c'));
        check.due(0, x::worst);
        x.place(0, 0);
        check.due(0L, () -> x.bill(0));
        x.read(0, 0, 0);
        x.take(0);
        check.due(40L, () -> x.bill(0));
        check.due(1, () -> x.count(0, 'c'));
        check.isThrown(NoSuchElementException.class, () -> x.bill(1));
        check.isThrown(NoSuchElementException.class, () -> x.bill(-1));
    }

    private static void worstOfOneOfAllAndOfEqualOnes() {
        check.isThrown(NoSuchElementException.class, () -> new LineKeeper().worst());
        LineKeeper x = Keepers.wholeMemory();
        check.due(0, x::worst);
        for (int name = 11; name >= 0; name--) {
            int n = name;
            x.read(0, n, 0);
            check.due(n, x::worst);
        }
        x.read(0, 0, 0);
        check.due(0, x::worst);
        x.read(0, 1, 0);
        check.due(0, x::worst);
        x.read(1, 11, 0);
        check.due(11, x::worst);
        check.due(80L, () -> x.bill(11));
        x.take(11);
        check.due(11, x::worst);
        LineKeeper y = Keepers.withNames(1);
        check.due(0, y::worst);
    }

    private static void cyclesOfEachCore() {
        LineKeeper x = Keepers.wholeMemory();
        for (int core = 0; core < 4; core++) {
            for (int turn = 0; turn <= core; turn++) {
                Keepers.read(x, core, 8 + core);
            }
        }
        for (int core = 0; core < 4; core++) {
            int c = core;
            check.due(40L + c, () -> x.cycles(c));
        }
        x.empty(0);
        check.due(40L, () -> x.cycles(0));
    }

    private static void missShareIsAFloat() {
        LineKeeper x = Keepers.wholeMemory();
        check.isThrown(ArithmeticException.class, x::missShare);
        Keepers.write(x, 0, 0);
        check.due(1.0f, x::missShare);
        for (int hits = 1; hits <= 200; hits++) {
            int h = hits;
            Keepers.read(x, 0, 0);
            check.due(1f / (float) (h + 1), x::missShare);
        }
        LineKeeper y = Keepers.wholeMemory();
        Keepers.read(y, 0, 0);
        Keepers.read(y, 1, 0);
        Keepers.write(y, 1, 0);
        check.due(2f / 3f, y::missShare);
        Keepers.write(y, 0, 0);
        y.empty(0);
        Keepers.write(y, 0, 0);
        check.due(4f / 5f, y::missShare);
    }

    private static void meanCostIsADouble() {
        LineKeeper x = Keepers.wholeMemory();
        check.isThrown(ArithmeticException.class, x::meanCost);
        Keepers.write(x, 0, 0);
        check.due(40.0, x::meanCost);
        for (int hits = 1; hits <= 200; hits++) {
            int h = hits;
            Keepers.read(x, 0, 0);
            check.due((double) (40 + h) / (double) (h + 1), x::meanCost);
        }
    }
}
