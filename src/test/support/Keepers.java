/** Keepers for tests. In that of wholeMemory, for read and write too, each of the lines 0 to 47 is in name line / 4. */
final class Keepers {
    private Keepers() {
    }

    /** Names of 32 words lie one behind the other on the lines 0 to 47. */
    static LineKeeper wholeMemory() {
        LineKeeper x = new LineKeeper();
        for (int name = 0; name < 12; name++) {
            x.addName(32);
        }
        x.link(1);
        return x;
    }

    /** Names of 8 words, so that the name with the number i is all of the i-th of these lines. */
    static LineKeeper onLines(int... lines) {
        LineKeeper x = new LineKeeper();
        for (int name = 0; name < lines.length; name++) {
            x.addName(8);
            x.place(name, lines[name] * 8);
        }
        return x;
    }

    /** Names that are not placed. */
    static LineKeeper withNames(int... words) {
        LineKeeper x = new LineKeeper();
        for (int count : words) {
            x.addName(count);
        }
        return x;
    }

    static void readAll(LineKeeper x, int core, int... lines) {
        for (int line : lines) {
            read(x, core, line);
        }
    }

    static int read(LineKeeper x, int core, int line) {
        return x.read(core, line / 4, line % 4 * 8);
    }

    static int write(LineKeeper x, int core, int line) {
        return x.write(core, line / 4, line % 4 * 8 + 7);
    }
}
