import java.util.ArrayList;
import java.util.Arrays;
import java.util.HashMap;
import java.util.HashSet;
import java.util.List;
import java.util.Map;
import java.util.Random;
import java.util.Set;

/**
 * The document made a second time, slowly and in another way: sets of cells and of instructions, steps by going through
 * every state that a unit can be in, walks on real cells that are filled with anything.
 */
final class Model {
    static final long UNKNOWN = -2;
    private static final int MOST_STATES = 60000;

    static final class Unit {
        final int frame;
        final int place;
        final List<int[]> code = new ArrayList<>();
        long steps;
        int depth;

        Unit(int frame, int place) {
            this.frame = frame;
            this.place = place;
        }

        int n(int i) {
            return i >= 0 && i < code.size() ? code.get(i)[0] : -1;
        }

        int a(int i) {
            return code.get(i)[1];
        }

        int b(int i) {
            return code.get(i)[2];
        }

        Set<Integer> counters() {
            Set<Integer> cells = new HashSet<>();
            for (int[] it : code) {
                if (it[0] == 12 || it[0] == 13) {
                    cells.add(it[1]);
                }
            }
            return cells;
        }
    }

    final int t;
    final List<Unit> units = new ArrayList<>();
    int fault;
    int faultUnit = -1;
    int faultAt = -1;
    /** The unit that has too many states for its steps to be known, or -1. */
    int unsureUnit = -1;

    Model(int t) {
        this.t = t;
    }

    int prove() {
        for (int u = 0; u < units.size(); u++) {
            if (placeFault(u)) {
                return found(1, u, -1);
            }
            Unit unit = units.get(u);
            for (int i = 0; i < unit.code.size(); i++) {
                int f = formFault(u, i);
                if (f != 0) {
                    return found(f, u, i);
                }
            }
            for (int i = 0; i < unit.code.size(); i++) {
                if (loopFault(unit, i)) {
                    return found(7, u, i);
                }
            }
            int f = stackFault(u);
            if (f != 0) {
                return f;
            }
            unit.steps = longest(unit);
            if (unit.steps == UNKNOWN) {
                unsureUnit = u;
                return 0;
            }
            if (unit.steps > 1000000000L) {
                return found(11, u, -1);
            }
        }
        return 0;
    }

    private int found(int f, int u, int i) {
        fault = f;
        faultUnit = u;
        faultAt = i;
        return f;
    }

    private static Set<Integer> range(long from, long count) {
        Set<Integer> cells = new HashSet<>();
        for (long k = 0; k < count; k++) {
            cells.add((int) (from + k));
        }
        return cells;
    }

    private boolean placeFault(int u) {
        Unit unit = units.get(u);
        if (u == units.size() - 1 && unit.place != 0) {
            return true;
        }
        if (unit.place < 0) {
            return false;
        }
        Set<Integer> mine = range(unit.place, unit.frame);
        for (int cell : mine) {
            if (cell >= t) {
                return true;
            }
        }
        for (int other = 0; other < u; other++) {
            Unit o = units.get(other);
            if (o.place >= 0) {
                Set<Integer> shared = range(o.place, o.frame);
                shared.retainAll(mine);
                if (!shared.isEmpty()) {
                    return true;
                }
            }
        }
        return false;
    }

    private int formFault(int u, int i) {
        Unit unit = units.get(u);
        int[] it = unit.code.get(i);
        int n = it[0];
        int a = it[1];
        int b = it[2];
        int c = it[3];
        if (n < 0 || n > 18 || n == 7 && (a < 0 || a > 24) || n == 8 && (a < 0 || a > 7)
                || n == 12 && (b < 0 || b > 1000000) || n == 17 && (a < 0 || a > 8) || (n == 3 || n == 4) && c < 1) {
            return 2;
        }
        boolean other = n == 5 || n == 6;
        if (other || n == 15 || n == 16) {
            if (a < 0 || a >= u || (units.get(a).place < 0) != (n == 15)) {
                return 3;
            }
        }
        long first = other || n == 15 || n == 17 ? b : a;
        long cells = n == 1 || n == 2 || n == 12 || n == 13 || other ? 1 : n == 3 || n == 4 ? c
                : n == 15 ? units.get(a).frame : n == 17 ? (a < 5 ? 6 : 3) : 0;
        Unit owner = other ? units.get(a) : unit;
        if (n == 15 && b < 0) {
            return 4;
        }
        for (long cell = first; cell < first + cells; cell++) {
            if (cell < 0 || cell >= owner.frame) {
                return 4;
            }
        }
        if (n != 12 && n != 13) {
            Set<Integer> hit = owner.counters();
            hit.retainAll(range(first, cells));
            if (!hit.isEmpty()) {
                return 5;
            }
        }
        int to = n == 13 ? b : a;
        if ((n == 10 || n == 11 || n == 13) && (to <= i || to > unit.code.size())) {
            return 6;
        }
        return n == 14 && (a < 0 || a >= i) ? 6 : 0;
    }

    /** The 13s of the loops that an instruction is in. */
    private static Set<Integer> loopsRound(Unit unit, int i) {
        Set<Integer> loops = new HashSet<>();
        for (int j = 0; j < unit.code.size(); j++) {
            if (unit.n(j) == 13) {
                for (int k = j + 1; k <= unit.b(j) - 1; k++) {
                    if (k == i) {
                        loops.add(j);
                    }
                }
            }
        }
        return loops;
    }

    private static boolean loopFault(Unit unit, int i) {
        int n = unit.n(i);
        if (n == 12) {
            boolean same = false;
            for (int j : loopsRound(unit, i)) {
                same |= unit.a(j) == unit.a(i);
            }
            return unit.n(i + 1) != 13 || unit.a(i + 1) != unit.a(i) || same;
        }
        if (n == 13) {
            int last = unit.b(i) - 1;
            Set<Integer> missed = loopsRound(unit, i);
            missed.removeAll(loopsRound(unit, last));
            return unit.n(i - 1) != 12 || unit.a(i - 1) != unit.a(i) || unit.n(last) != 14 || unit.a(last) != i
                    || !missed.isEmpty();
        }
        if (n == 14) {
            return unit.n(unit.a(i)) != 13 || unit.b(unit.a(i)) != i + 1;
        }
        if (n == 10 || n == 11) {
            Set<Integer> missed = loopsRound(unit, unit.a(i));
            if (unit.n(unit.a(i)) == 13) {
                missed.add(unit.a(i));
            }
            missed.removeAll(loopsRound(unit, i));
            return !missed.isEmpty();
        }
        return false;
    }

    private static final String[] STACK = {"0/1", "0/1", "1/0", "1/1", "2/0", "0/1", "1/0", "2/1", "1/1", "3/1", "0/0",
        "1/0", "0/0", "0/0", "0/0", "0/0", "0/0", "0/0", "0/0"};

    private static int taken(int n) {
        return STACK[n].charAt(0) - '0';
    }

    private static int left(int n) {
        return STACK[n].charAt(2) - '0';
    }

    private static List<Integer> goesTo(Unit unit, int i) {
        List<Integer> to = new ArrayList<>();
        int n = unit.n(i);
        if (n != 10 && n != 14 && n != 18) {
            to.add(i + 1);
        }
        if (n == 10 || n == 11 || n == 14) {
            to.add(unit.a(i));
        }
        if (n == 13) {
            to.add(unit.b(i));
        }
        if (n == 18) {
            to.add(unit.code.size());
        }
        return to;
    }

    private int stackFault(int u) {
        Unit unit = units.get(u);
        Map<Integer, Integer> depths = new HashMap<>();
        depths.put(0, 0);
        depths.put(unit.code.size(), 0);
        unit.depth = 0;
        for (int i = 0; i < unit.code.size(); i++) {
            if (!depths.containsKey(i)) {
                continue;
            }
            int n = unit.n(i);
            int depth = depths.get(i);
            if (taken(n) > depth) {
                return found(8, u, i);
            }
            int behind = depth - taken(n) + left(n);
            if (behind > 64) {
                return found(9, u, i);
            }
            for (int to : goesTo(unit, i)) {
                if (depths.getOrDefault(to, behind) != behind) {
                    return found(10, u, i);
                }
                depths.put(to, behind);
            }
            unit.depth = Math.max(unit.depth, behind);
            if (n == 15 || n == 16) {
                unit.depth = Math.max(unit.depth, depth + units.get(unit.a(i)).depth);
            }
        }
        return 0;
    }

    /** The most steps from a state (instruction, counters) on, for every state that comes up. */
    private long longest(Unit unit) {
        Map<List<Integer>, Long> known = new HashMap<>();
        Map<Integer, Integer> slots = new HashMap<>();
        for (int cell : unit.counters()) {
            slots.put(cell, slots.size() + 1);
        }
        Integer[] first = new Integer[slots.size() + 1];
        Arrays.fill(first, 0);
        List<List<Integer>> open = new ArrayList<>();
        open.add(Arrays.asList(first));
        while (!open.isEmpty()) {
            List<Integer> state = open.get(open.size() - 1);
            if (known.containsKey(state)) {
                open.remove(open.size() - 1);
                continue;
            }
            if (known.size() > MOST_STATES || open.size() > MOST_STATES) {
                return UNKNOWN;
            }
            List<List<Integer>> next = nextStates(unit, slots, state);
            boolean ready = true;
            long most = 0;
            for (List<Integer> s : next) {
                if (known.containsKey(s)) {
                    most = Math.max(most, known.get(s));
                } else {
                    open.add(s);
                    ready = false;
                }
            }
            if (ready) {
                int n = unit.n(state.get(0));
                long own = next.isEmpty() ? 0 : 1;
                if (n == 15 || n == 16) {
                    own += units.get(unit.a(state.get(0))).steps;
                }
                known.put(state, most + own);
                open.remove(open.size() - 1);
            }
        }
        return known.get(Arrays.asList(first));
    }

    private static List<List<Integer>> nextStates(Unit unit, Map<Integer, Integer> slots, List<Integer> state) {
        List<List<Integer>> next = new ArrayList<>();
        int i = state.get(0);
        if (i >= unit.code.size()) {
            return next;
        }
        int n = unit.n(i);
        Integer[] s = state.toArray(new Integer[0]);
        List<Integer> to = goesTo(unit, i);
        if (n == 12) {
            s[slots.get(unit.a(i))] = unit.b(i);
        }
        if (n == 13) {
            int slot = slots.get(unit.a(i));
            to = s[slot] == 0 ? List.of(unit.b(i)) : List.of(i + 1);
            s[slot] = Math.max(0, s[slot] - 1);
        }
        for (int target : to) {
            Integer[] copy = s.clone();
            copy[0] = target;
            next.add(Arrays.asList(copy));
        }
        return next;
    }

    private int walkedUnlesses;
    private int walkedSteps;
    private int stackNow;
    /** What went wrong in a walk that never may: with the stack, where it went, in which cells, with a loop's counter. */
    String broken;

    /** A walk on cells: all that is read is anything, all that is written, too. */
    int walk(long bits, Random random) {
        int[] cells = new int[t];
        for (int k = 0; k < t; k++) {
            cells[k] = random.nextInt();
        }
        walkedUnlesses = 0;
        walkedSteps = 0;
        stackNow = 0;
        broken = null;
        run(units.size() - 1, 0, cells, bits, random);
        if (stackNow != 0 && walkedSteps < 1000000) {
            broken = "something is left on the stack";
        }
        return walkedSteps;
    }

    private void run(int u, int base, int[] cells, long bits, Random random) {
        Unit unit = units.get(u);
        int i = 0;
        int floor = stackNow;
        int[] turnsLeft = new int[unit.code.size()];
        while (i < unit.code.size() && walkedSteps < 1000000 && broken == null) {
            walkedSteps++;
            int n = unit.n(i);
            if (stackNow - taken(n) < floor) {
                broken = "the stack is empty";
            }
            stackNow += left(n) - taken(n);
            if (stackNow > units.get(units.size() - 1).depth) {
                broken = "the stack is deeper than depth() says";
            }
            countTurn(unit, i, turnsLeft, cells, base);
            i = stepOn(u, base, i, cells, bits, random);
            if (i < 0 || i > unit.code.size()) {
                broken = "it goes out of the unit";
            }
        }
        if (stackNow != floor && walkedSteps < 1000000 && broken == null) {
            broken = "a unit leaves another stack than it found";
        }
    }

    /** The turns are counted beside the cells, too: no one else may have written where the counter is. */
    private void countTurn(Unit unit, int i, int[] turnsLeft, int[] cells, int base) {
        if (unit.n(i) == 12) {
            turnsLeft[i + 1] = unit.b(i);
        } else if (unit.n(i) == 13) {
            if (cells[base + unit.a(i)] != turnsLeft[i]) {
                broken = "a loop is counted wrongly";
            }
            turnsLeft[i]--;
        }
    }

    private int stepOn(int u, int base, int i, int[] cells, long bits, Random random) {
        Unit unit = units.get(u);
        int[] it = unit.code.get(i);
        int n = it[0];
        if (n <= 6 || n == 17) {
            touch(unit, base, it, cells, random);
        } else if (n == 10 || n == 14) {
            return it[1];
        } else if (n == 11) {
            boolean goes = (bits >> walkedUnlesses % 62 & 1) == 1;
            walkedUnlesses++;
            return goes ? it[1] : i + 1;
        } else if (n == 12) {
            write(unit, base, it[1], cells, it[2]);
        } else if (n == 13) {
            if (cells[base + it[1]] == 0) {
                return it[2];
            }
            cells[base + it[1]]--;
        } else if (n == 15) {
            run(it[1], base + it[2], cells, bits, random);
        } else if (n == 16) {
            run(it[1], units.get(it[1]).place, cells, bits, random);
        } else if (n == 18) {
            return unit.code.size();
        }
        return i + 1;
    }

    /** Reads and writes what is in an instruction's reach; which one of several cells it is, is anything. */
    private void touch(Unit unit, int base, int[] it, int[] cells, Random random) {
        int n = it[0];
        if (n == 1 || n == 2) {
            write(unit, base, it[1], cells, n == 1 ? read(unit, base, it[1], cells) : random.nextInt());
        } else if (n == 3 || n == 4) {
            int cell = it[1] + random.nextInt(it[3]);
            write(unit, base, cell, cells, n == 3 ? read(unit, base, cell, cells) : random.nextInt());
        } else if (n == 5 || n == 6) {
            Unit other = units.get(it[1]);
            write(other, other.place, it[2], cells, n == 5 ? read(other, other.place, it[2], cells) : random.nextInt());
        } else if (n == 17) {
            for (int k = 0; k < (it[1] < 5 ? 6 : 3); k++) {
                write(unit, base, it[2] + k, cells, random.nextInt());
            }
        }
    }

    private boolean isThere(Unit unit, int base, int cell, int[] cells) {
        boolean is = cell >= 0 && cell < unit.frame && base >= 0 && base + cell < cells.length;
        if (!is) {
            broken = "a cell outside";
        }
        return is;
    }

    private int read(Unit unit, int base, int cell, int[] cells) {
        return isThere(unit, base, cell, cells) ? cells[base + cell] : 0;
    }

    private void write(Unit unit, int base, int cell, int[] cells, int value) {
        if (isThere(unit, base, cell, cells)) {
            cells[base + cell] = value;
        }
    }
}
