import java.util.ArrayList;
import java.util.HashMap;
import java.util.Iterator;
import java.util.LinkedHashMap;
import java.util.List;
import java.util.Map;
import java.util.NoSuchElementException;

/**
 * The document once more, written from its words and in another form than the program: a map of words, and for each
 * set a map of lines in the order of their use. It replays nothing; what is asked by replay is what was kept.
 */
final class Model {
    private static final class Held {
        char state;
        boolean untried;
    }

    private static final class Core {
        final List<LinkedHashMap<Integer, Held>> sets = new ArrayList<>();
        final Map<Integer, String> left = new HashMap<>();
        final List<Integer> misses = new ArrayList<>();
        boolean ahead;
        int fetched;
        int useful;
        int wrong;

        Core() {
            for (int set = 0; set < 4; set++) {
                sets.add(new LinkedHashMap<>());
            }
        }

        Held at(int line) {
            return sets.get(line % 4).get(line);
        }

        void leaves(int line, String why) {
            Held held = sets.get(line % 4).remove(line);
            if (held != null) {
                left.put(line, why);
                wrong += held.untried ? 1 : 0;
            }
        }

        /** Returns the state of what leaves. */
        char comes(int line, char state, boolean untried) {
            LinkedHashMap<Integer, Held> set = sets.get(line % 4);
            char gone = '-';
            if (set.size() == 2) {
                int oldest = set.keySet().iterator().next();
                gone = set.get(oldest).state;
                leaves(oldest, "room");
            }
            Held held = new Held();
            held.state = state;
            held.untried = untried;
            set.put(line, held);
            return gone;
        }

        void uses(int line) {
            LinkedHashMap<Integer, Held> set = sets.get(line % 4);
            Held held = set.remove(line);
            set.put(line, held);
            if (held.untried) {
                held.untried = false;
                useful++;
            }
        }
    }

    private record Access(int core, int name, int cost, char cause) {
    }

    private final List<Integer> sizes = new ArrayList<>();
    private final Map<Integer, Integer> starts = new HashMap<>();
    private final List<Core> cores = new ArrayList<>();
    private final List<Access> made = new ArrayList<>();

    Model() {
        for (int core = 0; core < 4; core++) {
            cores.add(new Core());
        }
    }

    int addName(int words) {
        if (words < 1 || words > 32) {
            throw new IllegalArgumentException();
        }
        if (sizes.size() == 12) {
            throw new IllegalStateException();
        }
        sizes.add(words);
        return sizes.size() - 1;
    }

    int place(int name, int address) {
        needName(name);
        if (address < 0 || (long) address + sizes.get(name) > 512) {
            throw new IllegalArgumentException();
        }
        if (starts.containsKey(name) || !canPlace(name, address)) {
            throw new IllegalStateException();
        }
        starts.put(name, address);
        return address >> 3;
    }

    int link(int align) {
        if (align < 1 || align > 64) {
            throw new IllegalArgumentException();
        }
        Map<Integer, Integer> before = new HashMap<>(starts);
        int count = 0;
        for (int name = 0; name < sizes.size(); name++) {
            if (starts.containsKey(name)) {
                continue;
            }
            for (int address = 0; address < 512 && !starts.containsKey(name); address++) {
                if (address % align == 0 && canPlace(name, address)) {
                    starts.put(name, address);
                    count++;
                }
            }
            if (!starts.containsKey(name)) {
                starts.clear();
                starts.putAll(before);
                throw new UnsupportedOperationException();
            }
        }
        return count;
    }

    int take(int name) {
        needPlaced(name);
        return starts.remove(name);
    }

    int addressOf(int name, int word) {
        needPlaced(name);
        if (word < 0 || word >= sizes.get(name)) {
            throw new IllegalArgumentException();
        }
        return starts.get(name) + word;
    }

    int nameAt(int address) {
        if (address < 0 || address > 511) {
            throw new IllegalArgumentException();
        }
        Integer name = words().get(address);
        if (name == null) {
            throw new NoSuchElementException();
        }
        return name;
    }

    boolean meet(int name, int other) {
        needName(name);
        needName(other);
        if (name == other) {
            throw new IllegalArgumentException();
        }
        Map<Integer, Integer> words = words();
        for (int line = 0; line < 64; line++) {
            boolean hasName = false;
            boolean hasOther = false;
            for (int word = 0; word < 8; word++) {
                Integer there = words.get(line * 8 + word);
                hasName |= there != null && there == name;
                hasOther |= there != null && there == other;
            }
            if (hasName && hasOther) {
                return true;
            }
        }
        return false;
    }

    int read(int core, int name, int word) {
        int line = lineFor(core, name, word);
        Core me = cores.get(core);
        if (me.at(line) != null) {
            me.uses(line);
            return keep(core, name, 1, 'h');
        }
        char cause = causeOfMiss(me, name, line);
        boolean isElsewhere = holders(line) > 0;
        for (Core other : cores) {
            if (other.at(line) != null) {
                other.at(line).state = 's';
            }
        }
        int cost = isElsewhere ? 12 : 40;
        cost += me.comes(line, isElsewhere ? 's' : 'e', false) == 'm' ? 5 : 0;
        fetchBehind(core, line);
        return keep(core, name, cost, cause);
    }

    int write(int core, int name, int word) {
        int line = lineFor(core, name, word);
        Core me = cores.get(core);
        Held held = me.at(line);
        int cost;
        char cause;
        if (held == null) {
            cause = causeOfMiss(me, name, line);
            cost = holders(line) > 0 ? 12 : 40;
            cost += me.comes(line, 'm', false) == 'm' ? 5 : 0;
        } else {
            cost = held.state == 's' ? 8 : 1;
            cause = held.state == 's' ? 'u' : 'h';
            held.state = 'm';
            me.uses(line);
        }
        for (Core other : cores) {
            if (other != me) {
                other.leaves(line, "name " + name);
            }
        }
        if (held == null) {
            fetchBehind(core, line);
        }
        return keep(core, name, cost, cause);
    }

    int empty(int core) {
        Core me = core(core);
        int modified = 0;
        for (int line = 0; line < 64; line++) {
            modified += me.at(line) != null && me.at(line).state == 'm' ? 1 : 0;
            me.leaves(line, "room");
        }
        return modified;
    }

    boolean setAhead(int core, boolean isAhead) {
        Core me = core(core);
        boolean before = me.ahead;
        me.ahead = isAhead;
        me.misses.clear();
        return before;
    }

    int accesses() {
        return made.size();
    }

    int costOf(int index) {
        return access(index).cost;
    }

    int costByReplay(int index) {
        return access(index).cost;
    }

    char causeOf(int index) {
        return access(index).cause;
    }

    char state(int core, int line) {
        Core me = core(core);
        needLine(line);
        return me.at(line) == null ? '-' : me.at(line).state;
    }

    int owner(int line) {
        needLine(line);
        for (int core = 0; core < 4; core++) {
            Held held = cores.get(core).at(line);
            if (held != null && held.state != 's') {
                return core;
            }
        }
        throw new NoSuchElementException();
    }

    int holders(int line) {
        needLine(line);
        int count = 0;
        for (Core core : cores) {
            count += core.at(line) == null ? 0 : 1;
        }
        return count;
    }

    int lines(int core) {
        int count = 0;
        for (LinkedHashMap<Integer, Held> set : core(core).sets) {
            count += set.size();
        }
        return count;
    }

    int oldest(int core, int set) {
        Core me = core(core);
        if (set < 0 || set > 3) {
            throw new IllegalArgumentException();
        }
        Iterator<Integer> lines = me.sets.get(set).keySet().iterator();
        if (!lines.hasNext()) {
            throw new NoSuchElementException();
        }
        return lines.next();
    }

    int count(int name, char cause) {
        needName(name);
        if ("hucetf".indexOf(cause) < 0) {
            throw new IllegalArgumentException();
        }
        return (int) made.stream().filter(a -> a.name == name && a.cause == cause).count();
    }

    long bill(int name) {
        needName(name);
        return made.stream().filter(a -> a.name == name).mapToLong(Access::cost).sum();
    }

    int worst() {
        if (sizes.isEmpty()) {
            throw new NoSuchElementException();
        }
        int worst = sizes.size() - 1;
        for (int name = worst; name >= 0; name--) {
            worst = bill(name) >= bill(worst) ? name : worst;
        }
        return worst;
    }

    long cycles(int core) {
        core(core);
        return made.stream().filter(a -> a.core == core).mapToLong(Access::cost).sum();
    }

    int fetched(int core) {
        return core(core).fetched;
    }

    int useful(int core) {
        return core(core).useful;
    }

    int wrong(int core) {
        return core(core).wrong;
    }

    float missShare() {
        needAccesses();
        return (float) made.stream().filter(a -> "cetf".indexOf(a.cause) >= 0).count() / (float) made.size();
    }

    double meanCost() {
        needAccesses();
        return (double) made.stream().mapToLong(Access::cost).sum() / (double) made.size();
    }

    boolean isCoherent() {
        return true;
    }

    private Map<Integer, Integer> words() {
        Map<Integer, Integer> words = new HashMap<>();
        starts.forEach((name, start) -> {
            for (int word = 0; word < sizes.get(name); word++) {
                words.put(start + word, name);
            }
        });
        return words;
    }

    private boolean canPlace(int name, int address) {
        Map<Integer, Integer> words = words();
        for (int word = 0; word < sizes.get(name); word++) {
            if (address + word > 511 || words.containsKey(address + word)) {
                return false;
            }
        }
        return true;
    }

    private int lineFor(int core, int name, int word) {
        core(core);
        return addressOf(name, word) >> 3;
    }

    private static char causeOfMiss(Core me, int name, int line) {
        String why = me.left.get(line);
        if (why == null) {
            return 'c';
        }
        if (why.equals("room")) {
            return 'e';
        }
        return why.equals("name " + name) ? 't' : 'f';
    }

    private void fetchBehind(int core, int line) {
        Core me = cores.get(core);
        if (!me.ahead) {
            return;
        }
        me.misses.add(line);
        int last = me.misses.size() - 1;
        if (last < 2) {
            return;
        }
        int step = me.misses.get(last) - me.misses.get(last - 1);
        int stepBefore = me.misses.get(last - 1) - me.misses.get(last - 2);
        int next = line + step;
        if (step == 0 || step != stepBefore || next < 0 || next > 63 || me.at(next) != null) {
            return;
        }
        for (Core other : cores) {
            if (other.at(next) != null && other.at(next).state != 's') {
                return;
            }
        }
        me.comes(next, holders(next) > 0 ? 's' : 'e', true);
        me.fetched++;
    }

    private int keep(int core, int name, int cost, char cause) {
        made.add(new Access(core, name, cost, cause));
        return cost;
    }

    private Core core(int core) {
        if (core < 0 || core > 3) {
            throw new IndexOutOfBoundsException();
        }
        return cores.get(core);
    }

    private Access access(int index) {
        if (index < 0 || index >= made.size()) {
            throw new NoSuchElementException();
        }
        return made.get(index);
    }

    private void needName(int name) {
        if (name < 0 || name >= sizes.size()) {
            throw new NoSuchElementException();
        }
    }

    private void needPlaced(int name) {
        needName(name);
        if (!starts.containsKey(name)) {
            throw new IllegalStateException();
        }
    }

    private static void needLine(int line) {
        if (line < 0 || line > 63) {
            throw new IllegalArgumentException();
        }
    }

    private void needAccesses() {
        if (made.isEmpty()) {
            throw new ArithmeticException();
        }
    }
}
