/** All promises: long runs of made-up calls, each answered by the program and by the model of the support folder. */
public final class ModelTest {
    private static final int RUNS = 600;
    private static final int CALLS = 512;
    private static final int[] FAR_NUMBERS = {-1, -2, 512, 4096, Integer.MIN_VALUE, Integer.MAX_VALUE};

    private static final Check check = new Check();
    private static long seed = 2026;
    private static int callsOfRun = 0;

    public static void main(String[] args) {
        for (int run = 0; run < RUNS && check.isAllDue(); run++) {
            makeRun(run);
        }
        check.end();
    }

    /** Some runs ask between the accesses; the others ask for everything behind 150 calls that change something. */
    private static void makeRun(int run) {
        LineKeeper x = new LineKeeper();
        Model model = new Model();
        boolean isAskedLate = run % 3 == 0;
        callsOfRun = 0;
        int names = 1 + below(12);
        int width = 1 + below(32);
        for (int name = 0; name < names; name++) {
            compare(run, 0, x, model, width > 16 ? width : 1 + below(width), 0, 0);
        }
        compare(run, 2, x, model, 1 + below(20), 0, 0);
        while (callsOfRun < (isAskedLate ? 150 : CALLS)) {
            makeCall(run, below(isAskedLate ? 100 : 140), x, model, names);
        }
        if (isAskedLate) {
            askForAll(run, x, model);
        }
    }

    private static void makeCall(int run, int kind, LineKeeper x, Model model, int names) {
        if (kind < 35) {
            compare(run, 7, x, model, near(4), near(names), near(17));
        } else if (kind < 65) {
            compare(run, 8, x, model, near(4), near(names), near(17));
        } else if (kind < 80) {
            // Words one line apart teach steps.
            int name = below(names);
            int core = below(4);
            for (int word = 0; word < 32 && callsOfRun < CALLS; word += 8) {
                compare(run, 7 + below(2), x, model, core, name, word);
            }
        } else if (kind < 83) {
            compare(run, 9, x, model, near(4), 0, 0);
        } else if (kind < 87) {
            compare(run, 10, x, model, near(4), below(4), 0);
        } else if (kind < 89) {
            compare(run, 0, x, model, near(34), 0, 0);
        } else if (kind < 92) {
            compare(run, 1, x, model, near(names), near(512), 0);
        } else if (kind < 96) {
            compare(run, 2, x, model, near(66), 0, 0);
        } else if (kind < 100) {
            compare(run, 3, x, model, near(names), 0, 0);
        } else {
            ask(run, x, model, names);
        }
    }

    private static void ask(int run, LineKeeper x, Model model, int names) {
        int call = 4 + below(26);
        switch (call) {
            case 5 -> compare(run, 5, x, model, near(512), 0, 0);
            case 12, 13, 14 -> compare(run, call, x, model, near(model.accesses() + 1), 0, 0);
            case 16, 17 -> compare(run, call, x, model, near(64), 0, 0);
            case 15 -> compare(run, 15, x, model, near(4), near(64), 0);
            case 19 -> compare(run, 19, x, model, near(4), near(4), 0);
            case 20 -> compare(run, 20, x, model, near(names), below(8), 0);
            case 18, 23, 24, 25, 26 -> compare(run, call, x, model, near(4), 0, 0);
            case 4, 6 -> compare(run, call, x, model, near(names), near(names), 0);
            case 7, 8, 9, 10 -> compare(run, 29, x, model, 0, 0, 0);
            default -> compare(run, call, x, model, near(names), 0, 0);
        }
    }

    private static void askForAll(int run, LineKeeper x, Model model) {
        compare(run, 29, x, model, 0, 0, 0);
        compare(run, 22, x, model, 0, 0, 0);
        compare(run, 27, x, model, 0, 0, 0);
        compare(run, 28, x, model, 0, 0, 0);
        for (int name = 0; name < 12; name++) {
            compare(run, 4, x, model, name, 0, 0);
            compare(run, 21, x, model, name, 0, 0);
        }
        for (int core = 0; core < 4; core++) {
            for (int line = 0; line < 64; line++) {
                compare(run, 15, x, model, core, line, 0);
            }
            for (int set = 0; set < 4; set++) {
                compare(run, 19, x, model, core, set, 0);
            }
            for (int call = 23; call <= 26; call++) {
                compare(run, call, x, model, core, 0, 0);
            }
        }
        for (int index = 0; index < 20; index++) {
            compare(run, 12 + index % 3, x, model, below(model.accesses() + 1), 0, 0);
        }
    }

    private static void compare(int run, int call, LineKeeper x, Model model, int a, int b, int c) {
        callsOfRun++;
        String want = Check.outcomeOf(() -> callOfModel(model, call, a, b, c));
        String got = Check.outcomeOf(() -> callOfKeeper(x, call, a, b, c));
        check.same("run " + run + ": call " + call + " with " + a + ", " + b + ", " + c, want, got);
    }

    private static char causeAt(int at) {
        return "hucetfx-".charAt(at & 7);
    }

    private static Object callOfKeeper(LineKeeper x, int call, int a, int b, int c) {
        return switch (call) {
            case 0 -> x.addName(a);
            case 1 -> x.place(a, b);
            case 2 -> x.link(a);
            case 3 -> x.take(a);
            case 4 -> x.addressOf(a, b);
            case 5 -> x.nameAt(a);
            case 6 -> x.meet(a, b);
            case 7 -> x.read(a, b, c);
            case 8 -> x.write(a, b, c);
            case 9 -> x.empty(a);
            case 10 -> x.setAhead(a, b != 0);
            case 11 -> x.accesses();
            case 12 -> x.costOf(a);
            case 13 -> x.costByReplay(a);
            case 14 -> x.causeOf(a);
            case 15 -> x.state(a, b);
            case 16 -> x.owner(a);
            case 17 -> x.holders(a);
            case 18 -> x.lines(a);
            case 19 -> x.oldest(a, b);
            case 20 -> x.count(a, causeAt(b));
            case 21 -> x.bill(a);
            case 22 -> x.worst();
            case 23 -> x.cycles(a);
            case 24 -> x.fetched(a);
            case 25 -> x.useful(a);
            case 26 -> x.wrong(a);
            case 27 -> x.missShare();
            case 28 -> x.meanCost();
            default -> x.isCoherent();
        };
    }

    private static Object callOfModel(Model x, int call, int a, int b, int c) {
        return switch (call) {
            case 0 -> x.addName(a);
            case 1 -> x.place(a, b);
            case 2 -> x.link(a);
            case 3 -> x.take(a);
            case 4 -> x.addressOf(a, b);
            case 5 -> x.nameAt(a);
            case 6 -> x.meet(a, b);
            case 7 -> x.read(a, b, c);
            case 8 -> x.write(a, b, c);
            case 9 -> x.empty(a);
            case 10 -> x.setAhead(a, b != 0);
            case 11 -> x.accesses();
            case 12 -> x.costOf(a);
            case 13 -> x.costByReplay(a);
            case 14 -> x.causeOf(a);
            case 15 -> x.state(a, b);
            case 16 -> x.owner(a);
            case 17 -> x.holders(a);
            case 18 -> x.lines(a);
            case 19 -> x.oldest(a, b);
            case 20 -> x.count(a, causeAt(b));
            case 21 -> x.bill(a);
            case 22 -> x.worst();
            case 23 -> x.cycles(a);
            case 24 -> x.fetched(a);
            case 25 -> x.useful(a);
            case 26 -> x.wrong(a);
            case 27 -> x.missShare();
            case 28 -> x.meanCost();
            default -> x.isCoherent();
        };
    }

    /** Mostly a number from 0 to the bound less one, sometimes the bound itself or one far off. */
    private static int near(int bound) {
        int kind = below(40);
        if (kind == 0) {
            return FAR_NUMBERS[below(FAR_NUMBERS.length)];
        }
        return kind == 1 ? bound : below(Math.max(bound, 1));
    }

    /** The same numbers in every run of the test. */
    private static int below(int bound) {
        seed = seed * 6364136223846793005L + 1442695040888963407L;
        return (int) ((seed >>> 33) % bound);
    }
}
