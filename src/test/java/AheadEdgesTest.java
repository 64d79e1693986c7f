/** The edges of the term "Fetching ahead" and of promises 12 and 26 to 28. */
public final class AheadEdgesTest {
    private static final Check check = new Check();

    public static void main(String[] args) {
        noCoreFetchesAtFirst();
        setAheadAnswersWhatWasBefore();
        twoEqualStepsFetch();
        oneStepDoesNot();
        stepsThatDifferDoNot();
        theStep0IsNotFollowed();
        aStepOf0EndsTheSteps();
        stepsOfEachSizeUpAndDown();
        theFirstLineIsFetchedAndNoneBeforeIt();
        theLastLineIsFetchedAndNoneBehindIt();
        onlyMissesAreLookedAt();
        missesOfWritesCountToo();
        missesOfOtherCoresDoNotCount();
        missesFromBeforeDoNotCount();
        tellingAgainForgets();
        tellingAnotherCoreForgetsNothing();
        emptyForgetsNothing();
        aCoreThatNoLongerFetches();
        aLineThatIsThereIsNotFetched();
        aLineWithAnotherOwnerIsNotFetched();
        aLineThatIsNotFetchedEndsNoSteps();
        aFetchedLineComesAsExclusive();
        aFetchedLineComesAsShared();
        aLineComesBehindTheMiss();
        aFetchedLineWasUsedLast();
        aLineBehindAMissOfItsSetIsUsedLast();
        aModifiedLineThatLeavesForItCostsNothing();
        usefulAtTheFirstAccessOnly();
        usefulByAWrite();
        usefulForItsCoreOnly();
        usefulThoughItIsSharedMeanwhile();
        wrongByAFullSet();
        wrongByAnotherFetchedLine();
        wrongByEmptying();
        wrongByAWriteOfAnotherCore();
        notWrongOnceItWasAccessed();
        wrongAndFetchedAgain();
        aLineThatWasFetchedWasHad();
        countsStartAt0AndAreOfEachCore();
        check.end();
    }

    private static void dueCounts(LineKeeper x, int core, int fetched, int useful, int wrong) {
        check.due(fetched, () -> x.fetched(core));
        check.due(useful, () -> x.useful(core));
        check.due(wrong, () -> x.wrong(core));
    }

    private static LineKeeper aheadOf(int core, int... lines) {
        LineKeeper x = Keepers.wholeMemory();
        x.setAhead(core, true);
        Keepers.readAll(x, core, lines);
        return x;
    }

    private static void noCoreFetchesAtFirst() {
        for (int core = 0; core < 4; core++) {
            int c = core;
            LineKeeper x = Keepers.wholeMemory();
            Keepers.readAll(x, c, 0, 1, 2, 3, 4);
            dueCounts(x, c, 0, 0, 0);
            check.due(5, () -> x.lines(c));
            check.due(false, () -> x.setAhead(c, false));
        }
    }

    private static void setAheadAnswersWhatWasBefore() {
        for (int core : new int[] {0, 3}) {
            LineKeeper x = new LineKeeper();
            check.due(false, () -> x.setAhead(core, false));
            check.due(false, () -> x.setAhead(core, true));
            check.due(true, () -> x.setAhead(core, true));
            check.due(true, () -> x.setAhead(core, false));
            check.due(false, () -> x.setAhead(core, false));
            check.due(false, () -> x.setAhead(3 - core, true));
            check.due(false, () -> x.setAhead(core, true));
        }
        LineKeeper x = new LineKeeper();
        check.isThrown(IndexOutOfBoundsException.class, () -> x.setAhead(-1, true));
        check.isThrown(IndexOutOfBoundsException.class, () -> x.setAhead(4, true));
    }

    private static void twoEqualStepsFetch() {
        LineKeeper x = aheadOf(0, 10, 11);
        dueCounts(x, 0, 0, 0, 0);
        Keepers.read(x, 0, 12);
        dueCounts(x, 0, 1, 0, 0);
        check.due('e', () -> x.state(0, 13));
        check.due(4, () -> x.lines(0));
        Keepers.readAll(x, 0, 13, 14);
        check.due('-', () -> x.state(0, 15));
        Keepers.read(x, 0, 16);
        check.due('e', () -> x.state(0, 18));
        dueCounts(x, 0, 2, 1, 0);
    }

    private static void oneStepDoesNot() {
        LineKeeper x = aheadOf(0, 10);
        dueCounts(x, 0, 0, 0, 0);
        check.due(1, () -> x.lines(0));
        Keepers.read(x, 0, 20);
        dueCounts(x, 0, 0, 0, 0);
        check.due(2, () -> x.lines(0));
    }

    private static void stepsThatDifferDoNot() {
        LineKeeper x = aheadOf(0, 10, 11, 13, 14, 13, 12, 12);
        dueCounts(x, 0, 0, 0, 0);
        LineKeeper y = aheadOf(0, 10, 12, 11);
        dueCounts(y, 0, 0, 0, 0);
        LineKeeper z = aheadOf(0, 10, 11, 10, 9);
        dueCounts(z, 0, 0, 0, 0);
        Keepers.read(z, 0, 8);
        dueCounts(z, 0, 0, 0, 0);
    }

    private static void theStep0IsNotFollowed() {
        LineKeeper x = aheadOf(0, 10);
        for (int turn = 0; turn < 4; turn++) {
            Keepers.write(x, 1, 10);
            Keepers.read(x, 0, 10);
        }
        dueCounts(x, 0, 0, 0, 0);
        check.due(1, () -> x.lines(0));
        LineKeeper y = aheadOf(0, 0);
        y.empty(0);
        Keepers.read(y, 0, 0);
        y.empty(0);
        Keepers.read(y, 0, 0);
        dueCounts(y, 0, 0, 0, 0);
    }

    private static void aStepOf0EndsTheSteps() {
        LineKeeper x = aheadOf(0, 10, 11);
        Keepers.write(x, 1, 11);
        Keepers.readAll(x, 0, 11, 12);
        dueCounts(x, 0, 0, 0, 0);
        Keepers.read(x, 0, 13);
        dueCounts(x, 0, 1, 0, 0);
        check.due('e', () -> x.state(0, 14));
    }

    private static void stepsOfEachSizeUpAndDown() {
        for (int step = 1; step <= 21; step++) {
            int s = step;
            LineKeeper x = Keepers.onLines(0, s, 2 * s);
            x.setAhead(0, true);
            x.read(0, 0, 0);
            x.read(0, 1, 0);
            check.due('-', () -> x.state(0, 3 * s));
            x.read(0, 2, 0);
            check.due('e', () -> x.state(0, 3 * s));
            dueCounts(x, 0, 1, 0, 0);
        }
        for (int step = 1; step <= 21; step++) {
            int s = step;
            LineKeeper x = Keepers.onLines(63, 63 - s, 63 - 2 * s);
            x.setAhead(3, true);
            x.read(3, 0, 0);
            x.read(3, 1, 0);
            x.read(3, 2, 0);
            check.due('e', () -> x.state(3, 63 - 3 * s));
            dueCounts(x, 3, 1, 0, 0);
        }
    }

    private static void theFirstLineIsFetchedAndNoneBeforeIt() {
        LineKeeper x = aheadOf(0, 3, 2, 1);
        check.due('e', () -> x.state(0, 0));
        dueCounts(x, 0, 1, 0, 0);
        LineKeeper y = aheadOf(0, 2, 1, 0);
        dueCounts(y, 0, 0, 0, 0);
        check.due(3, () -> y.lines(0));
        LineKeeper behind = aheadOf(0, 31, 20, 9);
        dueCounts(behind, 0, 0, 0, 0);
        check.due(3, () -> behind.lines(0));
    }

    private static void theLastLineIsFetchedAndNoneBehindIt() {
        LineKeeper x = Keepers.onLines(60, 61, 62, 63);
        x.setAhead(0, true);
        x.read(0, 0, 0);
        x.read(0, 1, 0);
        x.read(0, 2, 0);
        check.due('e', () -> x.state(0, 63));
        check.due(1, () -> x.read(0, 3, 0));
        dueCounts(x, 0, 1, 1, 0);
        LineKeeper y = Keepers.onLines(61, 62, 63);
        y.setAhead(0, true);
        y.read(0, 0, 0);
        y.read(0, 1, 0);
        check.due(40, () -> y.read(0, 2, 0));
        dueCounts(y, 0, 0, 0, 0);
        check.due(3, () -> y.lines(0));
        LineKeeper z = Keepers.onLines(1, 22, 43);
        z.setAhead(0, true);
        z.read(0, 0, 0);
        z.read(0, 1, 0);
        check.due(40, () -> z.read(0, 2, 0));
        dueCounts(z, 0, 0, 0, 0);
        check.due(3, () -> z.lines(0));
    }

    private static void onlyMissesAreLookedAt() {
        LineKeeper x = Keepers.wholeMemory();
        Keepers.readAll(x, 0, 11, 12);
        Keepers.read(x, 1, 12);
        x.setAhead(0, true);
        Keepers.read(x, 0, 10);
        Keepers.read(x, 0, 11);
        check.due(8, () -> Keepers.write(x, 0, 12));
        dueCounts(x, 0, 0, 0, 0);
        Keepers.read(x, 0, 13);
        dueCounts(x, 0, 0, 0, 0);
        check.due(1, () -> Keepers.read(x, 0, 11));
        Keepers.read(x, 0, 16);
        dueCounts(x, 0, 1, 0, 0);
        check.due('e', () -> x.state(0, 19));
    }

    private static void missesOfWritesCountToo() {
        LineKeeper x = Keepers.wholeMemory();
        x.setAhead(0, true);
        Keepers.write(x, 0, 10);
        Keepers.read(x, 0, 11);
        check.due(40, () -> Keepers.write(x, 0, 12));
        check.due('e', () -> x.state(0, 13));
        check.due('m', () -> x.state(0, 12));
        dueCounts(x, 0, 1, 0, 0);
    }

    private static void missesOfOtherCoresDoNotCount() {
        LineKeeper x = aheadOf(0, 10);
        x.setAhead(1, true);
        Keepers.read(x, 1, 11);
        Keepers.read(x, 0, 12);
        dueCounts(x, 0, 0, 0, 0);
        Keepers.read(x, 1, 30);
        Keepers.read(x, 0, 14);
        dueCounts(x, 0, 1, 0, 0);
        dueCounts(x, 1, 0, 0, 0);
        check.due('e', () -> x.state(0, 16));
    }

    private static void missesFromBeforeDoNotCount() {
        LineKeeper x = Keepers.wholeMemory();
        Keepers.readAll(x, 0, 9, 10);
        x.setAhead(0, true);
        Keepers.read(x, 0, 11);
        dueCounts(x, 0, 0, 0, 0);
        Keepers.read(x, 0, 12);
        dueCounts(x, 0, 0, 0, 0);
        Keepers.read(x, 0, 13);
        dueCounts(x, 0, 1, 0, 0);
    }

    private static void tellingAgainForgets() {
        LineKeeper x = aheadOf(0, 10, 11);
        check.due(true, () -> x.setAhead(0, true));
        Keepers.read(x, 0, 12);
        dueCounts(x, 0, 0, 0, 0);
        Keepers.read(x, 0, 13);
        dueCounts(x, 0, 0, 0, 0);
        check.due(true, () -> x.setAhead(0, false));
        check.due(false, () -> x.setAhead(0, true));
        Keepers.readAll(x, 0, 14, 15);
        dueCounts(x, 0, 0, 0, 0);
        Keepers.read(x, 0, 16);
        dueCounts(x, 0, 1, 0, 0);
    }

    private static void tellingAnotherCoreForgetsNothing() {
        LineKeeper x = aheadOf(0, 10, 11);
        for (int core = 1; core < 4; core++) {
            x.setAhead(core, true);
            x.setAhead(core, false);
        }
        Keepers.read(x, 0, 12);
        dueCounts(x, 0, 1, 0, 0);
    }

    private static void emptyForgetsNothing() {
        LineKeeper x = aheadOf(0, 10, 11);
        check.due(0, () -> x.empty(0));
        Keepers.read(x, 0, 12);
        dueCounts(x, 0, 1, 0, 0);
        check.due('e', () -> x.state(0, 13));
        check.due(2, () -> x.lines(0));
        check.due(true, () -> x.setAhead(0, false));
    }

    private static void aCoreThatNoLongerFetches() {
        LineKeeper x = aheadOf(0, 10, 11, 12);
        x.setAhead(0, false);
        dueCounts(x, 0, 1, 0, 0);
        check.due('e', () -> x.state(0, 13));
        Keepers.readAll(x, 0, 20, 21, 22, 23);
        dueCounts(x, 0, 1, 0, 0);
        check.due(1, () -> Keepers.read(x, 0, 13));
        dueCounts(x, 0, 1, 1, 0);
        LineKeeper y = aheadOf(0, 10, 11, 12);
        y.setAhead(0, false);
        y.empty(0);
        dueCounts(y, 0, 1, 0, 1);
    }

    private static void aLineThatIsThereIsNotFetched() {
        for (int isWrite = 0; isWrite < 2; isWrite++) {
            LineKeeper x = Keepers.wholeMemory();
            if (isWrite == 1) {
                Keepers.write(x, 0, 13);
            } else {
                Keepers.read(x, 0, 13);
            }
            x.setAhead(0, true);
            Keepers.readAll(x, 0, 10, 11, 12);
            dueCounts(x, 0, 0, 0, 0);
            check.due(isWrite == 1 ? 'm' : 'e', () -> x.state(0, 13));
            Keepers.read(x, 0, 13);
            dueCounts(x, 0, 0, 0, 0);
        }
        for (int other = 1; other < 4; other++) {
            LineKeeper x = Keepers.wholeMemory();
            Keepers.read(x, 0, 13);
            Keepers.read(x, other, 13);
            x.setAhead(0, true);
            Keepers.readAll(x, 0, 10, 11, 12);
            dueCounts(x, 0, 0, 0, 0);
            check.due('s', () -> x.state(0, 13));
            check.due(13, () -> x.oldest(0, 1));
            x.empty(other);
            x.setAhead(0, true);
            Keepers.readAll(x, 0, 16, 15, 14);
            dueCounts(x, 0, 0, 0, 0);
            check.due('s', () -> x.state(0, 13));
        }
    }

    private static void aLineWithAnotherOwnerIsNotFetched() {
        for (int other = 1; other < 4; other++) {
            for (int isWrite = 0; isWrite < 2; isWrite++) {
                int o = other;
                boolean writes = isWrite == 1;
                LineKeeper x = Keepers.wholeMemory();
                check.due(40, () -> writes ? Keepers.write(x, o, 13) : Keepers.read(x, o, 13));
                x.setAhead(0, true);
                Keepers.readAll(x, 0, 10, 11, 12);
                dueCounts(x, 0, 0, 0, 0);
                check.due('-', () -> x.state(0, 13));
                check.due(writes ? 'm' : 'e', () -> x.state(o, 13));
                check.due(o, () -> x.owner(13));
            }
        }
    }

    private static void aLineThatIsNotFetchedEndsNoSteps() {
        LineKeeper x = Keepers.wholeMemory();
        Keepers.write(x, 1, 13);
        x.setAhead(0, true);
        Keepers.readAll(x, 0, 10, 11, 12);
        dueCounts(x, 0, 0, 0, 0);
        check.due(12, () -> Keepers.read(x, 0, 13));
        dueCounts(x, 0, 1, 0, 0);
        check.due('e', () -> x.state(0, 14));
    }

    private static void aFetchedLineComesAsExclusive() {
        LineKeeper x = aheadOf(2, 10, 11, 12);
        check.due('e', () -> x.state(2, 13));
        check.due(2, () -> x.owner(13));
        check.due(1, () -> Keepers.write(x, 2, 13));
        check.due('m', () -> x.state(2, 13));
        LineKeeper y = aheadOf(2, 10, 11, 12);
        check.due(12, () -> Keepers.read(y, 0, 13));
        check.due('s', () -> y.state(2, 13));
    }

    private static void aFetchedLineComesAsShared() {
        LineKeeper x = Keepers.wholeMemory();
        Keepers.read(x, 0, 13);
        Keepers.read(x, 1, 13);
        x.empty(0);
        x.setAhead(2, true);
        Keepers.readAll(x, 2, 10, 11, 12);
        dueCounts(x, 2, 1, 0, 0);
        check.due('s', () -> x.state(2, 13));
        check.due('s', () -> x.state(1, 13));
        check.due(2, () -> x.holders(13));
        check.due(8, () -> Keepers.write(x, 2, 13));
        dueCounts(x, 2, 1, 1, 0);
        check.due('-', () -> x.state(1, 13));
    }

    private static void aLineComesBehindTheMiss() {
        LineKeeper x = aheadOf(0, 0, 4);
        check.due(40, () -> Keepers.read(x, 0, 8));
        check.due('-', () -> x.state(0, 0));
        check.due('-', () -> x.state(0, 4));
        check.due('e', () -> x.state(0, 8));
        check.due('e', () -> x.state(0, 12));
        check.due(8, () -> x.oldest(0, 0));
        check.due(2, () -> x.lines(0));
        LineKeeper y = Keepers.wholeMemory();
        y.setAhead(0, true);
        Keepers.write(y, 0, 0);
        Keepers.write(y, 0, 4);
        check.due(45, () -> Keepers.write(y, 0, 8));
        check.due('m', () -> y.state(0, 8));
        check.due('e', () -> y.state(0, 12));
    }

    private static void aFetchedLineWasUsedLast() {
        LineKeeper x = Keepers.wholeMemory();
        Keepers.read(x, 0, 17);
        x.setAhead(0, true);
        Keepers.readAll(x, 0, 10, 11, 12);
        check.due(17, () -> x.oldest(0, 1));
        Keepers.read(x, 0, 17);
        check.due(13, () -> x.oldest(0, 1));
        Keepers.read(x, 0, 13);
        check.due(17, () -> x.oldest(0, 1));
    }

    private static void aLineBehindAMissOfItsSetIsUsedLast() {
        LineKeeper x = aheadOf(0, 41, 37, 33);
        check.due('-', () -> x.state(0, 37));
        check.due('e', () -> x.state(0, 29));
        check.due(33, () -> x.oldest(0, 1));
        LineKeeper y = aheadOf(0, 29, 33, 37);
        check.due('-', () -> y.state(0, 33));
        check.due('e', () -> y.state(0, 41));
        check.due(37, () -> y.oldest(0, 1));
    }

    private static void aModifiedLineThatLeavesForItCostsNothing() {
        LineKeeper x = Keepers.wholeMemory();
        Keepers.write(x, 0, 17);
        Keepers.write(x, 0, 21);
        x.setAhead(0, true);
        Keepers.readAll(x, 0, 10, 11);
        check.due(40, () -> Keepers.read(x, 0, 12));
        check.due('-', () -> x.state(0, 17));
        check.due('m', () -> x.state(0, 21));
        check.due(40, () -> x.costByReplay(4));
        check.due(200L, () -> x.cycles(0));
        check.due(40, () -> Keepers.read(x, 1, 17));
        check.due(45, () -> Keepers.read(x, 0, 25));
        check.due('-', () -> x.state(0, 21));
    }

    private static void usefulAtTheFirstAccessOnly() {
        LineKeeper x = aheadOf(0, 10, 11, 12);
        dueCounts(x, 0, 1, 0, 0);
        check.due(1, () -> Keepers.read(x, 0, 13));
        dueCounts(x, 0, 1, 1, 0);
        check.due(1, () -> Keepers.read(x, 0, 13));
        check.due(1, () -> Keepers.write(x, 0, 13));
        dueCounts(x, 0, 1, 1, 0);
        Keepers.read(x, 0, 12);
        dueCounts(x, 0, 1, 1, 0);
    }

    private static void usefulByAWrite() {
        LineKeeper x = aheadOf(0, 10, 11, 12);
        check.due(1, () -> Keepers.write(x, 0, 13));
        dueCounts(x, 0, 1, 1, 0);
        check.due(1, () -> Keepers.write(x, 0, 13));
        dueCounts(x, 0, 1, 1, 0);
        Keepers.write(x, 1, 13);
        dueCounts(x, 0, 1, 1, 0);
    }

    private static void usefulForItsCoreOnly() {
        LineKeeper x = aheadOf(0, 10, 11, 12);
        Keepers.read(x, 1, 13);
        dueCounts(x, 0, 1, 0, 0);
        dueCounts(x, 1, 0, 0, 0);
        Keepers.read(x, 0, 13);
        dueCounts(x, 0, 1, 1, 0);
        dueCounts(x, 1, 0, 0, 0);
    }

    private static void usefulThoughItIsSharedMeanwhile() {
        LineKeeper x = aheadOf(0, 10, 11, 12);
        Keepers.read(x, 3, 13);
        check.due('s', () -> x.state(0, 13));
        check.due(8, () -> Keepers.write(x, 0, 13));
        dueCounts(x, 0, 1, 1, 0);
    }

    private static void wrongByAFullSet() {
        LineKeeper x = aheadOf(0, 10, 11, 12);
        Keepers.read(x, 0, 21);
        dueCounts(x, 0, 1, 0, 0);
        Keepers.write(x, 0, 25);
        dueCounts(x, 0, 1, 0, 1);
        check.due('-', () -> x.state(0, 13));
        Keepers.read(x, 0, 13);
        dueCounts(x, 0, 1, 0, 1);
    }

    private static void wrongByAnotherFetchedLine() {
        LineKeeper x = aheadOf(0, 10, 11, 12);
        x.setAhead(0, true);
        Keepers.readAll(x, 0, 30, 31, 32);
        dueCounts(x, 0, 2, 0, 0);
        x.setAhead(0, true);
        Keepers.readAll(x, 0, 34, 35, 36);
        dueCounts(x, 0, 3, 0, 1);
        check.due('-', () -> x.state(0, 13));
        check.due('e', () -> x.state(0, 33));
        check.due('e', () -> x.state(0, 37));
    }

    private static void wrongByEmptying() {
        LineKeeper x = aheadOf(0, 10, 11, 12);
        x.empty(1);
        dueCounts(x, 0, 1, 0, 0);
        check.due(0, () -> x.empty(0));
        dueCounts(x, 0, 1, 0, 1);
        x.empty(0);
        dueCounts(x, 0, 1, 0, 1);
    }

    private static void wrongByAWriteOfAnotherCore() {
        LineKeeper x = aheadOf(0, 10, 11, 12);
        check.due(12, () -> Keepers.write(x, 3, 13));
        dueCounts(x, 0, 1, 0, 1);
        dueCounts(x, 3, 0, 0, 0);
        Keepers.read(x, 0, 13);
        check.due('t', () -> x.causeOf(x.accesses() - 1));
        dueCounts(x, 0, 2, 0, 1);
    }

    private static void notWrongOnceItWasAccessed() {
        LineKeeper x = aheadOf(0, 10, 11, 12, 13);
        x.empty(0);
        dueCounts(x, 0, 1, 1, 0);
        LineKeeper y = aheadOf(0, 10, 11, 12, 13, 21, 25);
        check.due('-', () -> y.state(0, 13));
        dueCounts(y, 0, 1, 1, 0);
        LineKeeper z = aheadOf(0, 10, 11, 12, 13);
        Keepers.write(z, 1, 13);
        dueCounts(z, 0, 1, 1, 0);
    }

    private static void wrongAndFetchedAgain() {
        LineKeeper x = aheadOf(0, 10, 11, 12);
        for (int turn = 1; turn <= 5; turn++) {
            x.empty(0);
            dueCounts(x, 0, turn, 0, turn);
            x.setAhead(0, true);
            Keepers.readAll(x, 0, 10, 11, 12);
            dueCounts(x, 0, turn + 1, 0, turn);
        }
        Keepers.read(x, 0, 13);
        dueCounts(x, 0, 6, 1, 5);
    }

    private static void aLineThatWasFetchedWasHad() {
        LineKeeper x = aheadOf(0, 10, 11, 12);
        x.empty(0);
        Keepers.read(x, 0, 13);
        check.due('e', () -> x.causeOf(3));
        LineKeeper y = aheadOf(0, 10, 11, 12);
        Keepers.write(y, 1, 13);
        Keepers.read(y, 0, 13);
        check.due('t', () -> y.causeOf(y.accesses() - 1));
        LineKeeper z = aheadOf(0, 10, 11, 12);
        Keepers.read(z, 0, 13);
        check.due('h', () -> z.causeOf(3));
    }

    private static void countsStartAt0AndAreOfEachCore() {
        LineKeeper x = Keepers.wholeMemory();
        for (int core = 0; core < 4; core++) {
            dueCounts(x, core, 0, 0, 0);
        }
        for (int core = 0; core < 4; core++) {
            x.setAhead(core, true);
            for (int line = 0; line < 3 + core; line++) {
                Keepers.read(x, core, core * 12 + line);
            }
        }
        dueCounts(x, 0, 1, 0, 0);
        dueCounts(x, 1, 1, 1, 0);
        dueCounts(x, 2, 1, 1, 0);
        dueCounts(x, 3, 1, 1, 0);
        for (int core : new int[] {-1, 4, Integer.MIN_VALUE, Integer.MAX_VALUE}) {
            check.isThrown(IndexOutOfBoundsException.class, () -> x.fetched(core));
            check.isThrown(IndexOutOfBoundsException.class, () -> x.useful(core));
            check.isThrown(IndexOutOfBoundsException.class, () -> x.wrong(core));
        }
    }
}
