/** Keepers for tests. In that of wholeMemory, for read and write too, each of the lines 0 to 47 is in name line / 4. */
final class Keepers {
    private Keepers() {
    }

    /** Names of 32 words lie one behind the other on the lines 0 to 47. */
    static LineKeeper wholeMemory() {
        LineKeeper x = new LineKeeper();
        for (int name = 0; name < 12; name++) {
            x.addName(32);
        }
        x.link(1);
        return x;
    }

    /** Names of 8 words, so that the name with the number i is all of the i-th of these lines. */
    static LineKeeper onLines(int... lines) {
        LineKeeper x = new LineKeeper();
        for (int name = 0; name < lines.length; name++) {
            x.addName(8);
            x.place(name, lines[name] * 8);
        }
        return x;
    }

    /** Names that are not placed. */
    static LineKeeper withNames(int... words) {
        LineKeeper x = new LineKeeper();
        for (int count : words) {
            x.addName(count);
        }
        return x;
    }

    /**
     * Names 0 to 7 are on 4 lines each from line 0, 8 and 9 share line 40, and 10 is not placed. Cores 0 and 1 fetch
     * ahead: 0 has the untried line 3, and 1 is one miss from fetching; 2 and 3 lost lines.
     */
    static LineKeeper busy() {
        LineKeeper x = withNames(32, 32, 32, 32, 32, 32, 32, 32, 4, 4, 8);
        for (int name = 0; name < 10; name++) {
            x.place(name, name < 8 ? name * 32 : 288 + name * 4);
        }
        x.setAhead(0, true);
        readAll(x, 0, 0, 1, 2);
        x.setAhead(1, true);
        read(x, 1, 5);
        write(x, 1, 6);
        readAll(x, 2, 11, 15, 19);
        read(x, 3, 15);
        x.empty(3);
        x.read(2, 8, 0);
        x.write(3, 9, 3);
        write(x, 2, 24);
        read(x, 2, 24);
        return x;
    }

    static void readAll(LineKeeper x, int core, int... lines) {
        for (int line : lines) {
            read(x, core, line);
        }
    }

    static int read(LineKeeper x, int core, int line) {
        return x.read(core, line / 4, line % 4 * 8);
    }

    static int write(LineKeeper x, int core, int line) {
        return x.write(core, line / 4, line % 4 * 8 + 7);
    }
}
