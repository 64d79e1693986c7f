import java.util.NoSuchElementException;

/** The edges of the terms "Caches", "Reads", "Writes", "Costs of replacing", and of promises 9 to 11 and 17 to 21. */
public final class CacheEdgesTest {
    private static final Check check = new Check();

    public static void main(String[] args) {
        coresAre0To3();
        linesAre0To63();
        setsAre0To3();
        aSetHasAtMostTwoLines();
        theSetIsTheRemainderBy4();
        aCacheHasAtMost8Lines();
        theOldestOfNoneOfOneAndOfTwo();
        everyAccessUsesALine();
        onlyTheCoresOwnAccessesUseALine();
        askingUsesNoLine();
        aReadOfALineThatIsThereCosts1();
        aReadMissCosts12IfAnotherHasTheLine();
        aReadMissCosts40IfNoOtherHasTheLine();
        aLineThatLeftIsHadByNone();
        aSharedLineStaysShared();
        aWriteOfAnOwnedLineCosts1();
        aWriteOfASharedLineCosts8();
        aWriteMissCosts12IfAnotherHasTheLine();
        aWriteTouchesNoOtherLine();
        aModifiedLineThatLeavesAFullSetCosts5();
        otherLinesThatLeaveCostNothing();
        onlyTheLineThatLeavesIsLookedAt();
        aModifiedLineThatLeavesOtherwiseCostsNothing();
        emptyOfNothingOfEightAndAgain();
        emptyCountsModifiedLinesAlone();
        ownersOfTheFirstAndTheLastCore();
        holdersFromNoneToAll();
        noOwnerHasAnotherHolder();
        check.end();
    }

    private static void coresAre0To3() {
        for (int core : new int[] {0, 3}) {
            LineKeeper x = Keepers.onLines(0);
            check.due(40, () -> x.read(core, 0, 0));
            check.due(1, () -> x.write(core, 0, 7));
            check.due('m', () -> x.state(core, 0));
            check.due(core, () -> x.owner(0));
            check.due(1, () -> x.lines(core));
            check.due(0, () -> x.oldest(core, 0));
            check.due(41L, () -> x.cycles(core));
            check.due(false, () -> x.setAhead(core, true));
            check.due(1, () -> x.empty(core));
            check.due(0, () -> x.fetched(core) + x.useful(core) + x.wrong(core));
        }
        LineKeeper x = Keepers.onLines(0);
        for (int core : new int[] {-1, 4, Integer.MIN_VALUE, Integer.MAX_VALUE}) {
            check.isThrown(IndexOutOfBoundsException.class, () -> x.read(core, 0, 0));
            check.isThrown(IndexOutOfBoundsException.class, () -> x.write(core, 0, 0));
            check.isThrown(IndexOutOfBoundsException.class, () -> x.state(core, 0));
            check.isThrown(IndexOutOfBoundsException.class, () -> x.lines(core));
            check.isThrown(IndexOutOfBoundsException.class, () -> x.oldest(core, 0));
            check.isThrown(IndexOutOfBoundsException.class, () -> x.cycles(core));
            check.isThrown(IndexOutOfBoundsException.class, () -> x.setAhead(core, true));
            check.isThrown(IndexOutOfBoundsException.class, () -> x.empty(core));
            check.isThrown(IndexOutOfBoundsException.class, () -> x.fetched(core));
            check.isThrown(IndexOutOfBoundsException.class, () -> x.useful(core));
            check.isThrown(IndexOutOfBoundsException.class, () -> x.wrong(core));
        }
        check.due(0, x::accesses);
    }

    private static void linesAre0To63() {
        LineKeeper x = Keepers.onLines(0, 63);
        x.read(1, 0, 0);
        x.write(2, 1, 7);
        check.due('e', () -> x.state(1, 0));
        check.due('m', () -> x.state(2, 63));
        check.due(1, () -> x.owner(0));
        check.due(2, () -> x.owner(63));
        check.due(1, () -> x.holders(0));
        check.due(1, () -> x.holders(63));
        check.due('-', () -> x.state(2, 0));
        check.due('-', () -> x.state(1, 63));
        for (int line : new int[] {-1, 64, Integer.MIN_VALUE, Integer.MAX_VALUE}) {
            check.isThrown(IllegalArgumentException.class, () -> x.state(1, line));
            check.isThrown(IllegalArgumentException.class, () -> x.owner(line));
            check.isThrown(IllegalArgumentException.class, () -> x.holders(line));
            check.isThrown(IndexOutOfBoundsException.class, () -> x.state(4, line));
        }
    }

    private static void setsAre0To3() {
        LineKeeper x = Keepers.onLines(0, 63);
        check.isThrown(NoSuchElementException.class, () -> x.oldest(0, 0));
        check.isThrown(NoSuchElementException.class, () -> x.oldest(3, 3));
        x.read(0, 0, 0);
        x.read(3, 1, 0);
        check.due(0, () -> x.oldest(0, 0));
        check.due(63, () -> x.oldest(3, 3));
        check.isThrown(NoSuchElementException.class, () -> x.oldest(0, 3));
        for (int set : new int[] {-1, 4, Integer.MIN_VALUE, Integer.MAX_VALUE}) {
            check.isThrown(IllegalArgumentException.class, () -> x.oldest(0, set));
            check.isThrown(IndexOutOfBoundsException.class, () -> x.oldest(-1, set));
        }
    }

    private static void aSetHasAtMostTwoLines() {
        for (int set = 0; set < 4; set++) {
            int s = set;
            LineKeeper x = Keepers.wholeMemory();
            Keepers.readAll(x, 2, s, s + 4);
            check.due('e', () -> x.state(2, s));
            check.due('e', () -> x.state(2, s + 4));
            check.due(2, () -> x.lines(2));
            Keepers.read(x, 2, s + 8);
            check.due('-', () -> x.state(2, s));
            check.due('e', () -> x.state(2, s + 4));
            check.due('e', () -> x.state(2, s + 8));
            check.due(2, () -> x.lines(2));
            Keepers.write(x, 2, s);
            check.due('-', () -> x.state(2, s + 4));
            check.due('m', () -> x.state(2, s));
            check.due(2, () -> x.lines(2));
        }
    }

    private static void theSetIsTheRemainderBy4() {
        for (int line = 0; line < 64; line++) {
            int l = line;
            LineKeeper x = Keepers.onLines(l);
            x.read(1, 0, 0);
            for (int set = 0; set < 4; set++) {
                int s = set;
                if (s == l % 4) {
                    check.due(l, () -> x.oldest(1, s));
                } else {
                    check.isThrown(NoSuchElementException.class, () -> x.oldest(1, s));
                }
            }
        }
        LineKeeper x = Keepers.onLines(3, 60, 61, 62, 63, 59);
        for (int name = 0; name < 5; name++) {
            x.read(0, name, 0);
        }
        check.due(5, () -> x.lines(0));
        check.due(3, () -> x.oldest(0, 3));
        x.read(0, 5, 0);
        check.due('-', () -> x.state(0, 3));
        check.due(63, () -> x.oldest(0, 3));
    }

    private static void aCacheHasAtMost8Lines() {
        LineKeeper x = Keepers.wholeMemory();
        for (int core = 0; core < 4; core++) {
            int c = core;
            check.due(0, () -> x.lines(c));
            for (int line = 0; line < 8; line++) {
                int l = line;
                Keepers.read(x, c, c * 8 + l);
                check.due(l + 1, () -> x.lines(c));
            }
        }
        for (int core = 0; core < 4; core++) {
            int c = core;
            for (int line = 32; line < 48; line++) {
                Keepers.write(x, c, line);
                check.due(8, () -> x.lines(c));
            }
        }
        check.due(0, () -> x.lines(0));
        check.due(8, () -> x.lines(3));
    }

    private static void theOldestOfNoneOfOneAndOfTwo() {
        LineKeeper x = Keepers.wholeMemory();
        check.isThrown(NoSuchElementException.class, () -> x.oldest(0, 1));
        Keepers.read(x, 0, 45);
        check.due(45, () -> x.oldest(0, 1));
        Keepers.read(x, 0, 1);
        check.due(45, () -> x.oldest(0, 1));
        Keepers.write(x, 1, 45);
        check.due(1, () -> x.oldest(0, 1));
        Keepers.write(x, 1, 1);
        check.isThrown(NoSuchElementException.class, () -> x.oldest(0, 1));
        check.due(45, () -> x.oldest(1, 1));
        x.empty(1);
        check.isThrown(NoSuchElementException.class, () -> x.oldest(1, 1));
    }

    private static void everyAccessUsesALine() {
        LineKeeper x = Keepers.wholeMemory();
        Keepers.readAll(x, 0, 0, 4);
        check.due(0, () -> x.oldest(0, 0));
        check.due(1, () -> Keepers.read(x, 0, 0));
        check.due(4, () -> x.oldest(0, 0));
        check.due(1, () -> Keepers.write(x, 0, 4));
        check.due(0, () -> x.oldest(0, 0));
        Keepers.read(x, 1, 0);
        check.due(8, () -> Keepers.write(x, 0, 0));
        check.due(4, () -> x.oldest(0, 0));
        check.due(1, () -> Keepers.read(x, 0, 0));
        check.due(4, () -> x.oldest(0, 0));
        check.due(45, () -> Keepers.write(x, 0, 8));
        check.due(0, () -> x.oldest(0, 0));
    }

    private static void onlyTheCoresOwnAccessesUseALine() {
        LineKeeper x = Keepers.wholeMemory();
        Keepers.readAll(x, 0, 0, 4);
        Keepers.read(x, 1, 0);
        check.due(1, () -> Keepers.read(x, 1, 0));
        check.due(0, () -> x.oldest(0, 0));
        Keepers.read(x, 0, 8);
        check.due('-', () -> x.state(0, 0));
        check.due('s', () -> x.state(1, 0));
    }

    private static void askingUsesNoLine() {
        LineKeeper x = Keepers.wholeMemory();
        Keepers.readAll(x, 0, 0, 4);
        x.state(0, 0);
        x.owner(0);
        x.holders(0);
        x.oldest(0, 0);
        x.costOf(0);
        x.causeOf(0);
        x.costByReplay(0);
        x.isCoherent();
        x.nameAt(0);
        x.setAhead(0, false);
        check.due(0, () -> x.oldest(0, 0));
    }

    private static void aReadOfALineThatIsThereCosts1() {
        LineKeeper x = Keepers.wholeMemory();
        Keepers.read(x, 0, 0);
        check.due(1, () -> Keepers.read(x, 0, 0));
        check.due('e', () -> x.state(0, 0));
        Keepers.write(x, 0, 0);
        check.due(1, () -> Keepers.read(x, 0, 0));
        check.due('m', () -> x.state(0, 0));
        Keepers.read(x, 3, 0);
        check.due(1, () -> Keepers.read(x, 0, 0));
        check.due(1, () -> Keepers.read(x, 3, 0));
        check.due('s', () -> x.state(0, 0));
        check.due('s', () -> x.state(3, 0));
    }

    private static void aReadMissCosts12IfAnotherHasTheLine() {
        for (int other = 1; other < 4; other++) {
            for (int isWrite = 0; isWrite < 2; isWrite++) {
                int o = other;
                LineKeeper x = Keepers.wholeMemory();
                if (isWrite == 1) {
                    Keepers.write(x, o, 7);
                } else {
                    Keepers.read(x, o, 7);
                }
                check.due(12, () -> Keepers.read(x, 0, 7));
                check.due('s', () -> x.state(0, 7));
                check.due('s', () -> x.state(o, 7));
                check.due(2, () -> x.holders(7));
            }
        }
        LineKeeper x = Keepers.wholeMemory();
        Keepers.write(x, 0, 7);
        for (int core = 1; core < 4; core++) {
            int c = core;
            check.due(12, () -> Keepers.read(x, c, 7));
            for (int holder = 0; holder < 4; holder++) {
                int h = holder;
                check.due(h <= c ? 's' : '-', () -> x.state(h, 7));
            }
        }
    }

    private static void aReadMissCosts40IfNoOtherHasTheLine() {
        for (int core = 0; core < 4; core++) {
            int c = core;
            LineKeeper x = Keepers.wholeMemory();
            Keepers.read(x, (c + 1) % 4, 6);
            check.due(40, () -> Keepers.read(x, c, 7));
            check.due('e', () -> x.state(c, 7));
            check.due(c, () -> x.owner(7));
            check.due('e', () -> x.state((c + 1) % 4, 6));
        }
    }

    private static void aLineThatLeftIsHadByNone() {
        LineKeeper x = Keepers.wholeMemory();
        Keepers.write(x, 0, 0);
        x.empty(0);
        check.due(40, () -> Keepers.read(x, 1, 0));
        check.due('e', () -> x.state(1, 0));
        Keepers.readAll(x, 1, 4, 8);
        check.due(40, () -> Keepers.write(x, 2, 0));
        check.due('m', () -> x.state(2, 0));
        x.empty(2);
        check.due(40, () -> Keepers.read(x, 2, 0));
    }

    private static void aSharedLineStaysShared() {
        LineKeeper x = Keepers.wholeMemory();
        Keepers.read(x, 0, 0);
        Keepers.read(x, 1, 0);
        x.empty(1);
        check.due('s', () -> x.state(0, 0));
        check.due(1, () -> x.holders(0));
        check.isThrown(NoSuchElementException.class, () -> x.owner(0));
        check.due(1, () -> Keepers.read(x, 0, 0));
        check.due(12, () -> Keepers.read(x, 2, 0));
        x.empty(2);
        check.due(8, () -> Keepers.write(x, 0, 0));
        check.due(0, () -> x.owner(0));
    }

    private static void aWriteOfAnOwnedLineCosts1() {
        LineKeeper x = Keepers.wholeMemory();
        Keepers.read(x, 3, 5);
        check.due(1, () -> Keepers.write(x, 3, 5));
        check.due('m', () -> x.state(3, 5));
        check.due(1, () -> Keepers.write(x, 3, 5));
        check.due('m', () -> x.state(3, 5));
        check.due(1, () -> x.holders(5));
    }

    private static void aWriteOfASharedLineCosts8() {
        for (int writer = 0; writer < 4; writer++) {
            int w = writer;
            LineKeeper x = Keepers.wholeMemory();
            for (int core = 0; core < 4; core++) {
                Keepers.read(x, core, 5);
            }
            check.due(8, () -> Keepers.write(x, w, 5));
            for (int core = 0; core < 4; core++) {
                int c = core;
                check.due(c == w ? 'm' : '-', () -> x.state(c, 5));
                check.due(c == w ? 1 : 0, () -> x.lines(c));
            }
            check.due(1, () -> Keepers.write(x, w, 5));
        }
    }

    private static void aWriteMissCosts12IfAnotherHasTheLine() {
        for (int sharers = 1; sharers < 4; sharers++) {
            LineKeeper x = Keepers.wholeMemory();
            for (int core = 0; core < sharers; core++) {
                Keepers.read(x, core, 5);
            }
            check.due(12, () -> Keepers.write(x, 3, 5));
            check.due('m', () -> x.state(3, 5));
            check.due(1, () -> x.holders(5));
            check.due(12, () -> Keepers.write(x, 0, 5));
            check.due('-', () -> x.state(3, 5));
            check.due(0, () -> x.owner(5));
        }
        LineKeeper x = Keepers.wholeMemory();
        check.due(40, () -> Keepers.write(x, 0, 5));
        check.due('m', () -> x.state(0, 5));
    }

    private static void aWriteTouchesNoOtherLine() {
        LineKeeper x = Keepers.wholeMemory();
        Keepers.read(x, 0, 5);
        Keepers.write(x, 0, 4);
        Keepers.read(x, 1, 6);
        Keepers.write(x, 2, 5);
        check.due('-', () -> x.state(0, 5));
        check.due('m', () -> x.state(0, 4));
        check.due('e', () -> x.state(1, 6));
        check.due(1, () -> x.lines(0));
    }

    private static void aModifiedLineThatLeavesAFullSetCosts5() {
        for (int isWrite = 0; isWrite < 2; isWrite++) {
            for (int isElsewhere = 0; isElsewhere < 2; isElsewhere++) {
                LineKeeper x = Keepers.wholeMemory();
                Keepers.write(x, 0, 3);
                check.due(40, () -> Keepers.write(x, 0, 7));
                if (isElsewhere == 1) {
                    Keepers.write(x, 1, 11);
                }
                int due = isElsewhere == 1 ? 17 : 45;
                boolean writes = isWrite == 1;
                check.due(due, () -> writes ? Keepers.write(x, 0, 11) : Keepers.read(x, 0, 11));
                check.due('-', () -> x.state(0, 3));
                check.due('m', () -> x.state(0, 7));
                check.due(due, () -> x.costOf(x.accesses() - 1));
                check.due(due, () -> x.costByReplay(x.accesses() - 1));
            }
        }
    }

    private static void otherLinesThatLeaveCostNothing() {
        LineKeeper x = Keepers.wholeMemory();
        Keepers.readAll(x, 0, 3, 7);
        check.due(40, () -> Keepers.read(x, 0, 11));
        check.due(40, () -> Keepers.write(x, 0, 15));
        LineKeeper y = Keepers.wholeMemory();
        Keepers.write(y, 0, 3);
        Keepers.write(y, 0, 7);
        Keepers.read(y, 1, 3);
        Keepers.read(y, 1, 7);
        check.due(40, () -> Keepers.read(y, 0, 11));
        check.due(40, () -> Keepers.write(y, 0, 15));
        check.due(12, () -> Keepers.read(y, 1, 11));
        check.due(12, () -> Keepers.write(y, 1, 15));
    }

    private static void onlyTheLineThatLeavesIsLookedAt() {
        LineKeeper x = Keepers.wholeMemory();
        Keepers.read(x, 0, 3);
        Keepers.write(x, 0, 7);
        check.due(40, () -> Keepers.read(x, 0, 11));
        check.due(45, () -> Keepers.read(x, 0, 15));
        check.due(40, () -> Keepers.read(x, 0, 19));
        Keepers.write(x, 0, 15);
        Keepers.write(x, 0, 19);
        check.due(40, () -> Keepers.write(x, 0, 2));
        check.due(40, () -> Keepers.write(x, 1, 3));
        check.due(45, () -> Keepers.write(x, 0, 23));
    }

    private static void aModifiedLineThatLeavesOtherwiseCostsNothing() {
        LineKeeper x = Keepers.wholeMemory();
        Keepers.write(x, 0, 3);
        check.due(12, () -> Keepers.write(x, 1, 3));
        check.due(12, () -> Keepers.read(x, 0, 3));
        check.due(8, () -> Keepers.write(x, 0, 3));
        check.due(40, () -> Keepers.write(x, 0, 7));
        check.due(2, () -> x.empty(0));
        check.due(40, () -> Keepers.write(x, 0, 11));
        check.due(40, () -> Keepers.write(x, 0, 15));
        check.due(45, () -> Keepers.write(x, 0, 19));
    }

    private static void emptyOfNothingOfEightAndAgain() {
        LineKeeper x = Keepers.wholeMemory();
        for (int core = 0; core < 4; core++) {
            int c = core;
            check.due(0, () -> x.empty(c));
        }
        for (int line = 0; line < 8; line++) {
            Keepers.write(x, 3, line);
        }
        check.due(8, () -> x.lines(3));
        check.due(8, () -> x.empty(3));
        check.due(0, () -> x.lines(3));
        check.due(0, () -> x.empty(3));
        check.due(8, x::accesses);
        LineKeeper y = Keepers.onLines(0, 63);
        y.write(1, 0, 0);
        y.write(1, 1, 0);
        check.due(2, () -> y.empty(1));
        check.due(0, () -> y.holders(63));
        check.due(0, () -> y.holders(0));
    }

    private static void emptyCountsModifiedLinesAlone() {
        LineKeeper x = Keepers.wholeMemory();
        Keepers.read(x, 0, 0);
        Keepers.write(x, 0, 1);
        Keepers.write(x, 0, 2);
        Keepers.read(x, 1, 2);
        Keepers.write(x, 2, 3);
        check.due(1, () -> x.empty(0));
        check.due(0, () -> x.empty(1));
        check.due('m', () -> x.state(2, 3));
        check.due(1, () -> x.empty(2));
        for (int line = 0; line < 4; line++) {
            int l = line;
            check.due(0, () -> x.holders(l));
        }
    }

    private static void ownersOfTheFirstAndTheLastCore() {
        LineKeeper x = Keepers.wholeMemory();
        check.isThrown(NoSuchElementException.class, () -> x.owner(9));
        Keepers.read(x, 3, 9);
        check.due(3, () -> x.owner(9));
        Keepers.write(x, 3, 9);
        check.due(3, () -> x.owner(9));
        Keepers.read(x, 0, 9);
        check.isThrown(NoSuchElementException.class, () -> x.owner(9));
        Keepers.write(x, 0, 9);
        check.due(0, () -> x.owner(9));
        x.empty(0);
        check.isThrown(NoSuchElementException.class, () -> x.owner(9));
    }

    private static void holdersFromNoneToAll() {
        LineKeeper x = Keepers.wholeMemory();
        check.due(0, () -> x.holders(9));
        for (int core = 3; core >= 0; core--) {
            int c = core;
            Keepers.read(x, c, 9);
            check.due(4 - c, () -> x.holders(9));
        }
        for (int core = 0; core < 4; core++) {
            int c = core;
            x.empty(c);
            check.due(3 - c, () -> x.holders(9));
        }
    }

    private static void noOwnerHasAnotherHolder() {
        for (int run = 0; run < 8; run++) {
            LineKeeper x = Keepers.wholeMemory();
            for (int core = 0; core < 4; core++) {
                x.setAhead(core, true);
            }
            int line = run;
            for (int turn = 0; turn < 60; turn++) {
                line = (line + 1 + turn / 9 % 3) % 12;
                int l = line;
                if ((turn + run) % 5 == 0) {
                    Keepers.write(x, turn % 4, l);
                } else {
                    Keepers.read(x, turn % 4, l);
                }
                String owner = Check.outcomeOf(() -> x.owner(l));
                if (!owner.startsWith("throws.")) {
                    check.due(1, () -> x.holders(l));
                }
                check.due(true, x::isCoherent);
            }
        }
    }
}
