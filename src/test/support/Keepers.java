/** Keepers for tests that are about lines: each of the lines 0 to 47 is in the name line / 4. */
final class Keepers {
    private Keepers() {
    }

    /** Names of 32 words lie one behind the other on the lines 0 to 47. */
    static LineKeeper wholeMemory() {
        LineKeeper x = new LineKeeper();
        for (int name = 0; name < 12; name++) {
            x.addName(32);
        }
        x.link(1);
        return x;
    }

    static int read(LineKeeper x, int core, int line) {
        return x.read(core, line / 4, line % 4 * 8);
    }

    static int write(LineKeeper x, int core, int line) {
        return x.write(core, line / 4, line % 4 * 8 + 7);
    }
}
