import java.util.ArrayList;
import java.util.List;

/**
 * Sees that a call changes nothing, because it is refused or only asks: a keeper that was asked for it answers, and
 * goes on, as its twin that was not. The questions are in parts, each for twins of its own, because a keeper is used
 * for 512 calls only.
 */
final class Twins {
    interface Maker {
        LineKeeper make();
    }

    interface Asked {
        Object ask(LineKeeper x);
    }

    private interface Part {
        List<String> answersOf(LineKeeper x);
    }

    private static final List<Part> PARTS =
        List.of(Twins::layout, Twins::states, Twins::bills, Twins::wayOn, Twins::wayOnOfNames);

    private final Check check;
    private final Maker maker;
    private final List<List<String>> answersOfTwin = new ArrayList<>();

    /** The maker makes the same keeper each time, with at most 100 calls. */
    Twins(Check check, Maker maker) {
        this.check = check;
        this.maker = maker;
        for (Part part : PARTS) {
            answersOfTwin.add(part.answersOf(maker.make()));
        }
    }

    /** The call is refused, and changes nothing. */
    void isThrown(Class<? extends RuntimeException> want, Asked asked) {
        for (int part = 0; part < PARTS.size(); part++) {
            LineKeeper x = maker.make();
            check.isThrown(want, () -> asked.ask(x));
            compareWithTwin(part, x);
        }
    }

    /** The call is answered, and changes nothing. */
    void due(Object want, Asked asked) {
        for (int part = 0; part < PARTS.size(); part++) {
            LineKeeper x = maker.make();
            check.due(want, () -> asked.ask(x));
            compareWithTwin(part, x);
        }
    }

    private void compareWithTwin(int part, LineKeeper x) {
        String place = Check.placeInTest();
        List<String> wants = answersOfTwin.get(part);
        List<String> gots = PARTS.get(part).answersOf(x);
        for (int at = 0; at < wants.size(); at++) {
            check.same(place + ": behind the call question " + at + " of part " + part, wants.get(at), gots.get(at));
        }
    }

    private static List<String> layout(LineKeeper x) {
        List<String> answers = new ArrayList<>();
        for (int name = 0; name < 12; name++) {
            for (int word = 0; word < 32; word++) {
                int n = name;
                int w = word;
                answers.add(Check.outcomeOf(() -> x.addressOf(n, w)));
            }
        }
        return answers;
    }

    private static List<String> states(LineKeeper x) {
        List<String> answers = new ArrayList<>();
        for (int core = 0; core < 4; core++) {
            int c = core;
            for (int line = 0; line < 64; line++) {
                int l = line;
                answers.add(Check.outcomeOf(() -> x.state(c, l)));
            }
            for (int set = 0; set < 4; set++) {
                int s = set;
                answers.add(Check.outcomeOf(() -> x.oldest(c, s)));
            }
            answers.add(Check.outcomeOf(() -> x.lines(c)));
        }
        return answers;
    }

    private static List<String> bills(LineKeeper x) {
        List<String> answers = new ArrayList<>();
        for (int name = 0; name < 12; name++) {
            int n = name;
            answers.add(Check.outcomeOf(() -> x.bill(n)));
            for (char cause : "hucetf".toCharArray()) {
                answers.add(Check.outcomeOf(() -> x.count(n, cause)));
            }
        }
        answers.add(Check.outcomeOf(x::worst));
        answers.add(Check.outcomeOf(x::missShare));
        answers.add(Check.outcomeOf(x::meanCost));
        answers.add(Check.outcomeOf(x::isCoherent));
        addCounts(answers, x);
        addAccesses(answers, x, 0, 60);
        return answers;
    }

    /** What was learned, how lines left and what is untried is seen only by the accesses that come behind. */
    private static List<String> wayOn(LineKeeper x) {
        List<String> answers = new ArrayList<>();
        int before = x.accesses();
        int seed = 1;
        for (int core = 3; core >= 0; core--) {
            int c = core;
            answers.add(Check.outcomeOf(() -> Keepers.read(x, c, 4 * c + 3)));
            answers.add(Check.outcomeOf(() -> Keepers.read(x, c, 4 * c + 4)));
            answers.add(Check.outcomeOf(() -> x.read(c, 8, 0)));
        }
        for (int turn = 0; turn < 120; turn++) {
            seed = (seed * 1103515245 + 12345) & 0x7fffffff;
            int core = seed >> 8 & 3;
            int line = (seed >> 12) % 12;
            boolean isWrite = (seed >> 20) % 3 == 0;
            answers.add(Check.outcomeOf(() -> isWrite ? Keepers.write(x, core, line) : Keepers.read(x, core, line)));
        }
        addAccesses(answers, x, before, before + 132);
        addCounts(answers, x);
        return answers;
    }

    private static List<String> wayOnOfNames(LineKeeper x) {
        List<String> answers = new ArrayList<>();
        for (int core = 0; core < 4; core++) {
            int c = core;
            answers.add(Check.outcomeOf(() -> x.setAhead(c, true)));
        }
        answers.add(Check.outcomeOf(() -> x.addName(3)));
        answers.add(Check.outcomeOf(() -> x.link(1)));
        for (int address = 0; address < 320; address++) {
            int a = address;
            answers.add(Check.outcomeOf(() -> x.nameAt(a)));
        }
        return answers;
    }

    private static void addAccesses(List<String> answers, LineKeeper x, int from, int end) {
        answers.add(Check.outcomeOf(x::accesses));
        for (int index = from; index < end; index++) {
            int i = index;
            answers.add(Check.outcomeOf(() -> x.causeOf(i)));
            if (index % 4 == 0) {
                answers.add(Check.outcomeOf(() -> x.costOf(i)));
            }
        }
    }

    private static void addCounts(List<String> answers, LineKeeper x) {
        for (int core = 0; core < 4; core++) {
            int c = core;
            answers.add(Check.outcomeOf(() -> x.fetched(c)));
            answers.add(Check.outcomeOf(() -> x.useful(c)));
            answers.add(Check.outcomeOf(() -> x.wrong(c)));
            answers.add(Check.outcomeOf(() -> x.cycles(c)));
        }
    }
}
