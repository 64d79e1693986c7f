import java.util.NoSuchElementException;

/** The edges of the term "Memory and names" and of promises 1 to 8; calls that are refused are in RefusedTest too. */
public final class MemoryEdgesTest {
    private static final Check check = new Check();

    public static void main(String[] args) {
        aNewObjectIsEmpty();
        theMemoryHasTheAddresses0To511();
        theLineIsTheAddressDividedBy8();
        anAccessGoesToTheLineOfTheWord();
        aNameCrossesLines();
        atMost12NamesExist();
        aNameHasFrom1To32Words();
        wordsLieOneBehindTheOther();
        noWordIsBeyondTheLastAddress();
        noTwoNamesHaveAnAddressInCommon();
        aNameAroundAnotherOrInsideItIsRefused();
        aNameCannotBePlacedTwice();
        theNumberToLinkIs1To64();
        linkWithNothingToPlace();
        linkPlacesByNumbers();
        linkTakesTheLowestAddressThatFits();
        linkReachesTheLastAddress();
        linkPlacesAllOrNone();
        linkCountsWhatItPlaces();
        takeGivesTheAddressesBack();
        takeLeavesCachesAndBillsAsTheyAre();
        addressOfTheFirstAndTheLastWord();
        nameAtTheEdgesOfANameAndOfTheMemory();
        namesMeetAtTheirEdges();
        namesMeetOnTheLastLine();
        namesThatAreNotPlacedMeetNone();
        check.end();
    }

    private static void aNewObjectIsEmpty() {
        for (int core = 0; core < 4; core++) {
            int c = core;
            LineKeeper x = new LineKeeper();
            for (int line = 0; line < 64; line++) {
                int l = line;
                check.due('-', () -> x.state(c, l));
                check.due(0, () -> x.holders(l));
                check.isThrown(NoSuchElementException.class, () -> x.owner(l));
            }
            for (int set = 0; set < 4; set++) {
                int s = set;
                check.isThrown(NoSuchElementException.class, () -> x.oldest(c, s));
            }
            check.due(0, () -> x.lines(c));
            check.due(0L, () -> x.cycles(c));
            check.due(0, () -> x.fetched(c));
            check.due(0, () -> x.useful(c));
            check.due(0, () -> x.wrong(c));
            check.due(0, () -> x.empty(c));
            check.due(false, () -> x.setAhead(c, true));
        }
        for (int from = 0; from < 512; from += 256) {
            LineKeeper x = new LineKeeper();
            for (int address = from; address < from + 256; address++) {
                int a = address;
                check.isThrown(NoSuchElementException.class, () -> x.nameAt(a));
            }
            check.due(0, x::accesses);
            check.due(true, x::isCoherent);
            check.due(0, () -> x.addName(1));
        }
    }

    private static void theMemoryHasTheAddresses0To511() {
        LineKeeper x = Keepers.withNames(1, 1);
        check.isThrown(IllegalArgumentException.class, () -> x.place(0, -1));
        check.due(0, () -> x.place(0, 0));
        check.isThrown(IllegalArgumentException.class, () -> x.place(1, 512));
        check.due(63, () -> x.place(1, 511));
        check.isThrown(IllegalArgumentException.class, () -> x.nameAt(-1));
        check.due(0, () -> x.nameAt(0));
        check.isThrown(NoSuchElementException.class, () -> x.nameAt(1));
        check.isThrown(NoSuchElementException.class, () -> x.nameAt(510));
        check.due(1, () -> x.nameAt(511));
        check.isThrown(IllegalArgumentException.class, () -> x.nameAt(512));
    }

    private static void theLineIsTheAddressDividedBy8() {
        for (int from = 0; from < 512; from += 128) {
            LineKeeper x = Keepers.withNames(1);
            for (int address = from; address < from + 128; address++) {
                int a = address;
                check.due(a / 8, () -> x.place(0, a));
                check.due(a, () -> x.take(0));
            }
        }
    }

    private static void anAccessGoesToTheLineOfTheWord() {
        for (int line = 0; line < 64; line++) {
            int l = line;
            LineKeeper x = Keepers.onLines(l);
            check.due(40, () -> x.read(0, 0, 0));
            check.due('e', () -> x.state(0, l));
            check.due(1, () -> x.lines(0));
            check.due(1, () -> x.write(0, 0, 7));
            check.due('m', () -> x.state(0, l));
            check.due(1, () -> x.lines(0));
        }
    }

    private static void aNameCrossesLines() {
        LineKeeper x = Keepers.withNames(10);
        check.due(62, () -> x.place(0, 502));
        check.due(40, () -> x.write(0, 0, 1));
        check.due(1, () -> x.write(0, 0, 0));
        check.due('-', () -> x.state(0, 63));
        check.due(40, () -> x.write(0, 0, 2));
        check.due(1, () -> x.write(0, 0, 9));
        check.due('m', () -> x.state(0, 62));
        check.due('m', () -> x.state(0, 63));
        check.due(2, () -> x.lines(0));
    }

    private static void atMost12NamesExist() {
        LineKeeper x = new LineKeeper();
        check.isThrown(NoSuchElementException.class, () -> x.bill(0));
        for (int name = 0; name < 12; name++) {
            int n = name;
            check.isThrown(NoSuchElementException.class, () -> x.bill(n));
            check.due(n, () -> x.addName(32));
            check.due(0L, () -> x.bill(n));
        }
        check.isThrown(IllegalStateException.class, () -> x.addName(1));
        check.isThrown(IllegalStateException.class, () -> x.addName(32));
        check.isThrown(IllegalArgumentException.class, () -> x.addName(0));
        check.isThrown(IllegalArgumentException.class, () -> x.addName(33));
        check.isThrown(NoSuchElementException.class, () -> x.bill(12));
        check.isThrown(NoSuchElementException.class, () -> x.bill(-1));
        check.due(12, () -> x.link(1));
        check.due(352, () -> x.addressOf(11, 0));
        x.take(11);
        check.isThrown(IllegalStateException.class, () -> x.addName(1));
    }

    private static void aNameHasFrom1To32Words() {
        LineKeeper x = new LineKeeper();
        check.isThrown(IllegalArgumentException.class, () -> x.addName(0));
        check.due(0, () -> x.addName(1));
        check.isThrown(IllegalArgumentException.class, () -> x.addName(33));
        check.due(1, () -> x.addName(32));
        check.isThrown(IllegalArgumentException.class, () -> x.addName(Integer.MIN_VALUE));
        check.isThrown(IllegalArgumentException.class, () -> x.addName(Integer.MAX_VALUE));
        check.due(2, () -> x.addName(31));
        check.due(3, () -> x.link(1));
        for (int name = 0; name < 3; name++) {
            int n = name;
            int last = new int[] {0, 31, 30}[name];
            check.isThrown(IllegalArgumentException.class, () -> x.addressOf(n, -1));
            int start = new int[] {0, 1, 33}[name];
            check.due(start, () -> x.addressOf(n, 0));
            check.due(start + last, () -> x.addressOf(n, last));
            check.isThrown(IllegalArgumentException.class, () -> x.addressOf(n, last + 1));
            check.isThrown(IllegalArgumentException.class, () -> x.read(0, n, last + 1));
            check.isThrown(IllegalArgumentException.class, () -> x.write(0, n, -1));
        }
        check.due(0, x::accesses);
        check.due(40, () -> x.read(0, 2, 30));
        check.due(12, () -> x.write(1, 2, 30));
    }

    private static void wordsLieOneBehindTheOther() {
        LineKeeper x = Keepers.withNames(32);
        x.place(0, 480);
        for (int word = 0; word < 32; word++) {
            int w = word;
            check.due(480 + w, () -> x.addressOf(0, w));
            check.due(0, () -> x.nameAt(480 + w));
        }
        check.isThrown(NoSuchElementException.class, () -> x.nameAt(479));
    }

    private static void noWordIsBeyondTheLastAddress() {
        for (int words = 1; words <= 32; words++) {
            int last = 512 - words;
            LineKeeper x = Keepers.withNames(words);
            check.isThrown(IllegalArgumentException.class, () -> x.place(0, last + 1));
            check.isThrown(IllegalArgumentException.class, () -> x.place(0, 512));
            check.isThrown(IllegalArgumentException.class, () -> x.place(0, Integer.MAX_VALUE));
            check.isThrown(IllegalArgumentException.class, () -> x.place(0, Integer.MAX_VALUE - last));
            check.isThrown(IllegalArgumentException.class, () -> x.place(0, -1));
            check.isThrown(IllegalArgumentException.class, () -> x.place(0, Integer.MIN_VALUE));
            check.isThrown(IllegalStateException.class, () -> x.take(0));
            check.due(last / 8, () -> x.place(0, last));
            check.due(last, () -> x.take(0));
            check.due(0, () -> x.place(0, 0));
        }
    }

    private static void noTwoNamesHaveAnAddressInCommon() {
        LineKeeper x = Keepers.withNames(8, 8);
        x.place(0, 100);
        for (int address = 93; address < 108; address++) {
            int a = address;
            check.isThrown(IllegalStateException.class, () -> x.place(1, a));
        }
        check.due(11, () -> x.place(1, 92));
        check.due(92, () -> x.take(1));
        check.due(13, () -> x.place(1, 108));
        check.due(100, () -> x.take(0));
        for (int address = 101; address < 116; address++) {
            int a = address;
            check.isThrown(IllegalStateException.class, () -> x.place(0, a));
        }
        check.due(14, () -> x.place(0, 116));
    }

    private static void aNameAroundAnotherOrInsideItIsRefused() {
        LineKeeper x = Keepers.withNames(32, 1, 1);
        x.place(1, 40);
        check.isThrown(IllegalStateException.class, () -> x.place(0, 9));
        check.isThrown(IllegalStateException.class, () -> x.place(0, 24));
        check.isThrown(IllegalStateException.class, () -> x.place(0, 40));
        check.due(1, () -> x.place(0, 8));
        check.isThrown(IllegalStateException.class, () -> x.place(2, 8));
        check.isThrown(IllegalStateException.class, () -> x.place(2, 20));
        check.isThrown(IllegalStateException.class, () -> x.place(2, 39));
        check.isThrown(IllegalStateException.class, () -> x.place(2, 40));
        check.due(0, () -> x.place(2, 7));
        check.due(8, () -> x.take(0));
        check.due(5, () -> x.place(0, 41));
    }

    private static void aNameCannotBePlacedTwice() {
        LineKeeper x = Keepers.withNames(4);
        check.due(0, () -> x.place(0, 0));
        check.isThrown(IllegalStateException.class, () -> x.place(0, 0));
        check.isThrown(IllegalStateException.class, () -> x.place(0, 2));
        check.isThrown(IllegalStateException.class, () -> x.place(0, 508));
        check.isThrown(IllegalArgumentException.class, () -> x.place(0, 509));
        check.due(0, () -> x.take(0));
        check.due(0, () -> x.place(0, 2));
        check.due(2, () -> x.take(0));
        check.due(1, () -> x.link(1));
        check.isThrown(IllegalStateException.class, () -> x.place(0, 508));
    }

    private static void theNumberToLinkIs1To64() {
        for (int align = 1; align <= 64; align++) {
            int a = align;
            LineKeeper x = Keepers.withNames(1, 1);
            check.due(2, () -> x.link(a));
            check.due(0, () -> x.addressOf(0, 0));
            check.due(a, () -> x.addressOf(1, 0));
        }
        LineKeeper x = Keepers.withNames(1);
        check.isThrown(IllegalArgumentException.class, () -> x.link(0));
        check.isThrown(IllegalArgumentException.class, () -> x.link(65));
        check.isThrown(IllegalArgumentException.class, () -> x.link(-1));
        check.isThrown(IllegalArgumentException.class, () -> x.link(Integer.MIN_VALUE));
        check.isThrown(IllegalArgumentException.class, () -> x.link(Integer.MAX_VALUE));
        check.isThrown(IllegalStateException.class, () -> x.take(0));
    }

    private static void linkWithNothingToPlace() {
        LineKeeper x = new LineKeeper();
        check.due(0, () -> x.link(1));
        check.due(0, () -> x.link(64));
        x.addName(32);
        x.place(0, 480);
        check.due(0, () -> x.link(1));
        check.due(0, () -> x.link(64));
        check.due(480, () -> x.addressOf(0, 0));
    }

    private static void linkPlacesByNumbers() {
        LineKeeper x = Keepers.withNames(1, 32, 2, 31, 1);
        check.due(5, () -> x.link(1));
        int[] starts = {0, 1, 33, 35, 66};
        for (int name = 0; name < 5; name++) {
            int n = name;
            check.due(starts[n], () -> x.addressOf(n, 0));
        }
        x.take(3);
        x.take(0);
        check.due(2, () -> x.link(5));
        check.due(0, () -> x.addressOf(0, 0));
        check.due(35, () -> x.addressOf(3, 0));
    }

    private static void linkTakesTheLowestAddressThatFits() {
        LineKeeper x = Keepers.withNames(4, 4, 5, 4, 1, 1);
        x.place(0, 4);
        x.place(1, 12);
        check.due(4, () -> x.link(4));
        check.due(16, () -> x.addressOf(2, 0));
        check.due(0, () -> x.addressOf(3, 0));
        check.due(8, () -> x.addressOf(4, 0));
        check.due(24, () -> x.addressOf(5, 0));
        x.take(4);
        x.take(5);
        check.due(2, () -> x.link(3));
        check.due(9, () -> x.addressOf(4, 0));
        check.due(21, () -> x.addressOf(5, 0));
        x.take(2);
        x.take(4);
        x.take(5);
        check.due(3, () -> x.link(1));
        check.due(16, () -> x.addressOf(2, 0));
        check.due(8, () -> x.addressOf(4, 0));
        check.due(9, () -> x.addressOf(5, 0));
    }

    private static void linkReachesTheLastAddress() {
        linkAtLast(64, 8, 448, 32);
        linkAtLast(63, 9, 504, 8);
        linkAtLast(62, 9, 496, 16);
        linkAtLast(51, 11, 510, 2);
        linkAtLast(46, 12, 506, 6);
    }

    /** As many names as there are such addresses, the last with as many words as there are from there. */
    private static void linkAtLast(int align, int names, int last, int room) {
        LineKeeper x = new LineKeeper();
        for (int name = 0; name < names - 1; name++) {
            x.addName(32);
        }
        x.addName(room);
        check.due(names, () -> x.link(align));
        check.due(last, () -> x.addressOf(names - 1, 0));
        if (names < 12) {
            x.addName(1);
            check.isThrown(UnsupportedOperationException.class, () -> x.link(align));
            check.due(1, () -> x.link(1));
            check.due(32, () -> x.addressOf(names, 0));
        }
        if (room < 32) {
            LineKeeper y = new LineKeeper();
            for (int name = 0; name < names - 1; name++) {
                y.addName(32);
            }
            y.addName(room + 1);
            check.isThrown(UnsupportedOperationException.class, () -> y.link(align));
            check.isThrown(IllegalStateException.class, () -> y.take(0));
        }
    }

    private static void linkPlacesAllOrNone() {
        LineKeeper x = Keepers.withNames(32, 32, 32, 32, 32, 32, 32, 32, 32, 1);
        x.place(4, 33);
        check.isThrown(UnsupportedOperationException.class, () -> x.link(64));
        for (int name = 0; name < 10; name++) {
            int n = name;
            if (n == 4) {
                check.due(33, () -> x.addressOf(4, 0));
            } else {
                check.isThrown(IllegalStateException.class, () -> x.addressOf(n, 0));
            }
        }
        check.isThrown(NoSuchElementException.class, () -> x.nameAt(0));
        check.isThrown(NoSuchElementException.class, () -> x.nameAt(128));
        x.place(9, 0);
        check.isThrown(UnsupportedOperationException.class, () -> x.link(64));
        check.due(0, () -> x.take(9));
        check.due(9, () -> x.link(32));
    }

    private static void linkCountsWhatItPlaces() {
        LineKeeper x = Keepers.withNames(32, 32, 32, 32, 32, 32, 32, 32, 32, 32, 32, 32);
        x.place(5, 480);
        check.due(11, () -> x.link(32));
        check.due(0, () -> x.link(32));
        x.take(5);
        check.due(1, () -> x.link(32));
        check.due(320, () -> x.addressOf(11, 0));
        check.due(352, () -> x.addressOf(5, 0));
    }

    private static void takeGivesTheAddressesBack() {
        LineKeeper x = Keepers.withNames(1, 32);
        check.isThrown(IllegalStateException.class, () -> x.take(0));
        x.place(0, 0);
        check.due(0, () -> x.take(0));
        check.isThrown(IllegalStateException.class, () -> x.take(0));
        check.isThrown(NoSuchElementException.class, () -> x.nameAt(0));
        x.place(0, 511);
        check.isThrown(IllegalStateException.class, () -> x.place(1, 480));
        check.due(511, () -> x.take(0));
        check.due(60, () -> x.place(1, 480));
        check.isThrown(IllegalStateException.class, () -> x.take(0));
        check.isThrown(IllegalStateException.class, () -> x.read(0, 0, 0));
        check.isThrown(IllegalStateException.class, () -> x.write(0, 0, 0));
        check.isThrown(IllegalStateException.class, () -> x.addressOf(0, 0));
    }

    private static void takeLeavesCachesAndBillsAsTheyAre() {
        LineKeeper x = Keepers.withNames(8, 8);
        x.place(0, 0);
        x.write(0, 0, 0);
        x.take(0);
        check.due('m', () -> x.state(0, 0));
        check.due(40L, () -> x.bill(0));
        check.due(1, () -> x.count(0, 'c'));
        check.due(40, () -> x.costByReplay(0));
        check.due(true, x::isCoherent);
        x.place(1, 0);
        check.due(1, () -> x.read(0, 1, 7));
        x.place(0, 504);
        check.due(40, () -> x.read(0, 0, 7));
        check.due(80L, () -> x.bill(0));
        check.due(1L, () -> x.bill(1));
        check.due(true, x::isCoherent);
    }

    private static void addressOfTheFirstAndTheLastWord() {
        LineKeeper x = Keepers.withNames(32, 32);
        x.place(0, 0);
        x.place(1, 480);
        check.due(0, () -> x.addressOf(0, 0));
        check.due(31, () -> x.addressOf(0, 31));
        check.due(480, () -> x.addressOf(1, 0));
        check.due(511, () -> x.addressOf(1, 31));
        check.isThrown(IllegalArgumentException.class, () -> x.addressOf(1, 32));
        check.isThrown(IllegalArgumentException.class, () -> x.addressOf(1, -1));
        check.isThrown(IllegalArgumentException.class, () -> x.addressOf(0, Integer.MIN_VALUE));
        check.isThrown(IllegalArgumentException.class, () -> x.addressOf(0, Integer.MAX_VALUE));
    }

    private static void nameAtTheEdgesOfANameAndOfTheMemory() {
        LineKeeper x = Keepers.withNames(3, 32, 5);
        check.isThrown(NoSuchElementException.class, () -> x.nameAt(0));
        x.place(1, 200);
        x.place(2, 232);
        check.isThrown(NoSuchElementException.class, () -> x.nameAt(199));
        check.due(1, () -> x.nameAt(200));
        check.due(1, () -> x.nameAt(231));
        check.due(2, () -> x.nameAt(232));
        check.due(2, () -> x.nameAt(236));
        check.isThrown(NoSuchElementException.class, () -> x.nameAt(237));
        check.isThrown(NoSuchElementException.class, () -> x.nameAt(0));
        x.place(0, 0);
        check.due(0, () -> x.nameAt(0));
        x.take(1);
        check.isThrown(NoSuchElementException.class, () -> x.nameAt(200));
        check.isThrown(IllegalArgumentException.class, () -> x.nameAt(512));
        check.isThrown(IllegalArgumentException.class, () -> x.nameAt(-1));
    }

    private static void namesMeetAtTheirEdges() {
        LineKeeper x = Keepers.withNames(32, 1);
        x.place(0, 100);
        for (int address = 80; address < 152; address++) {
            int a = address;
            if (a < 100 || a > 131) {
                x.place(1, a);
                boolean isMet = a / 8 == 12 || a / 8 == 16;
                check.due(isMet, () -> x.meet(0, 1));
                check.due(isMet, () -> x.meet(1, 0));
                x.take(1);
            }
        }
        x.take(0);
        x.place(0, 104);
        for (int address : new int[] {103, 136}) {
            x.place(1, address);
            check.due(false, () -> x.meet(0, 1));
            check.due(false, () -> x.meet(1, 0));
            x.take(1);
        }
    }

    private static void namesMeetOnTheLastLine() {
        LineKeeper x = Keepers.withNames(1, 1, 1);
        x.place(0, 511);
        x.place(1, 504);
        x.place(2, 503);
        check.due(true, () -> x.meet(0, 1));
        check.due(true, () -> x.meet(1, 0));
        check.due(false, () -> x.meet(0, 2));
        check.due(false, () -> x.meet(2, 1));
    }

    private static void namesThatAreNotPlacedMeetNone() {
        LineKeeper x = Keepers.withNames(4, 4);
        check.due(false, () -> x.meet(0, 1));
        x.place(0, 0);
        check.due(false, () -> x.meet(0, 1));
        check.due(false, () -> x.meet(1, 0));
        x.place(1, 4);
        check.due(true, () -> x.meet(0, 1));
        x.take(0);
        check.due(false, () -> x.meet(0, 1));
        check.due(false, () -> x.meet(1, 0));
        check.isThrown(IllegalArgumentException.class, () -> x.meet(0, 0));
        check.isThrown(NoSuchElementException.class, () -> x.meet(2, 2));
        check.isThrown(NoSuchElementException.class, () -> x.meet(0, 2));
        check.isThrown(NoSuchElementException.class, () -> x.meet(-1, 0));
    }
}
