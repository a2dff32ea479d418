import java.util.ArrayList;
import java.util.List;
import java.util.Random;

/** Makes up code for the tests that compare with the model: every other time all right, else with something wrong. */
final class MadeUp {
    private static final int MOST_INSTRUCTIONS = 256;

    private final Random random;
    private List<int[]> code;
    private List<int[]> toPatch;
    private int frame;
    private int free;
    private int unitNumber;
    private Model model;

    MadeUp(Random random) {
        this.random = random;
    }

    /** Code that an object has room for. */
    Model next() {
        do {
            make();
            mutate();
        } while (all() > MOST_INSTRUCTIONS);
        return model;
    }

    private int all() {
        int all = 0;
        for (Model.Unit unit : model.units) {
            all += unit.code.size();
        }
        return all;
    }

    private void make() {
        model = new Model(60 + random.nextInt(40));
        int units = 1 + random.nextInt(4);
        boolean heavy = random.nextInt(40) == 0;
        int freePlace = model.t;
        for (unitNumber = 0; unitNumber < units; unitNumber++) {
            boolean isProgram = unitNumber == units - 1;
            frame = random.nextInt(8) == 0 ? random.nextInt(4) : 8 + random.nextInt(6);
            int place = -1;
            if (isProgram) {
                place = 0;
                frame = 16 + random.nextInt(8);
            } else if (random.nextInt(2) == 0 && freePlace - frame >= 24) {
                freePlace -= frame;
                place = freePlace;
            }
            code = new ArrayList<>();
            toPatch = new ArrayList<>();
            free = frame - 5;
            if (heavy) {
                heavyLoop(isProgram);
            } else if (frame >= 8) {
                statements(0, 0, 3 + random.nextInt(3));
            }
            patch();
            Model.Unit unit = new Model.Unit(frame, place);
            unit.code.addAll(code);
            model.units.add(unit);
        }
    }

    /** A long loop that begins the unit before: the steps of units in units soon are too many. */
    private void heavyLoop(boolean isProgram) {
        frame = isProgram ? 10 : 1 + unitNumber;
        int counter = frame - 1;
        say(12, counter, 1 + random.nextInt(2000), 0);
        say(13, counter, 0, 0);
        int u = unitNumber - 1;
        if (u >= 0) {
            boolean placed = model.units.get(u).place >= 0;
            say(placed ? 16 : 15, u, 0, 0);
        }
        if (random.nextBoolean()) {
            say(0, 0, 0, 0);
            say(11, code.size() + 2 + random.nextInt(2), 0, 0);
        }
        say(14, 1, 0, 0);
        code.get(1)[2] = code.size();
    }

    private void say(int n, int a, int b, int c) {
        code.add(new int[] {n, a, b, c});
    }

    /** Statements at a depth of 0; loops of an outer level use other counters than those of an inner one. */
    private void statements(int level, int loops, int budget) {
        int many = 1 + random.nextInt(3);
        for (int k = 0; k < many && code.size() < 40; k++) {
            statement(level, loops, budget);
        }
    }

    private void statement(int level, int loops, int budget) {
        int kind = random.nextInt(budget > 0 ? 12 : 7);
        if (kind <= 2) {
            plain();
        } else if (kind == 3) {
            begin();
        } else if (kind == 4) {
            say(17, 5 + random.nextInt(4), random.nextInt(Math.max(1, free - 2)), 0);
        } else if (kind <= 6) {
            leave(level);
        } else if (kind <= 8) {
            say(0, random.nextInt(), 0, 0);
            int at = code.size();
            say(11, 0, 0, 0);
            statements(level + 1, loops, budget - 1);
            code.get(at)[1] = code.size();
        } else {
            loop(level, loops, budget);
        }
    }

    private void loop(int level, int loops, int budget) {
        int counter = frame - 1 - loops % 5;
        int at = code.size();
        say(12, counter, random.nextInt(5), 0);
        say(13, counter, 0, 0);
        if (random.nextInt(6) > 0) {
            statements(level + 1, loops + 1, budget - 1);
        }
        say(14, at + 1, 0, 0);
        code.get(at + 1)[2] = code.size();
    }

    private void plain() {
        int pushed = random.nextInt(60) == 0 ? 62 + random.nextInt(5) : 1 + random.nextInt(4);
        for (int k = 0; k < pushed; k++) {
            if (random.nextBoolean()) {
                say(0, random.nextInt(), random.nextInt(), random.nextInt());
            } else {
                say(1, random.nextInt(free), 0, 0);
            }
        }
        int depth = pushed;
        for (int k = 0; depth > 0 && k < 200; k++) {
            int n = new int[] {2, 3, 4, 6, 7, 8, 9}[random.nextInt(7)];
            int takes = n == 4 || n == 7 ? 2 : n == 9 ? 3 : 1;
            int leaves = n == 2 || n == 4 || n == 6 ? 0 : 1;
            if (takes > depth || n == 6 && otherUnit(true) < 0) {
                continue;
            }
            depth += leaves - takes;
            if (n == 6) {
                int u = otherUnit(true);
                say(6, u, random.nextInt(Math.max(1, model.units.get(u).frame - 5)), 0);
            } else if (n == 3 || n == 4) {
                int first = random.nextInt(free);
                say(n, first, random.nextInt(), 1 + random.nextInt(free - first));
            } else {
                say(n, random.nextInt(n == 7 ? 25 : n == 8 ? 8 : free), 0, 0);
            }
        }
        if (depth > 0) {
            for (int k = 0; k < depth; k++) {
                say(2, 0, 0, 0);
            }
        }
    }

    private int otherUnit(boolean placed) {
        for (int u = unitNumber - 1; u >= 0; u--) {
            if (model.units.get(u).place >= 0 == placed) {
                return u;
            }
        }
        return -1;
    }

    private void begin() {
        boolean placed = random.nextBoolean();
        int u = otherUnit(placed);
        int room = u < 0 ? -1 : free - model.units.get(u).frame;
        if (u < 0 || !placed && room < 0) {
            return;
        }
        boolean onTop = random.nextInt(3) == 0;
        if (onTop) {
            say(0, 1, 0, 0);
        }
        say(placed ? 16 : 15, u, placed ? 0 : random.nextInt(room + 1), 0);
        if (onTop) {
            say(2, 0, 0, 0);
        }
    }

    /** Goes somewhere behind: where, is said when the unit is whole. */
    private void leave(int level) {
        int kind = random.nextInt(4);
        if (kind == 0 && level > 0) {
            say(18, 0, 0, 0);
        } else if (kind == 1 && level > 0) {
            toPatch.add(new int[] {code.size()});
            say(10, 0, 0, 0);
        } else {
            say(0, 1, 0, 0);
            toPatch.add(new int[] {code.size()});
            say(11, 0, 0, 0);
        }
    }

    /** Any place behind at which the stack is empty and that is in no loop in which the one that goes is not. */
    private void patch() {
        for (int[] p : toPatch) {
            List<Integer> places = new ArrayList<>();
            int depth = 0;
            for (int i = 0; i <= code.size(); i++) {
                if (i > p[0] && depth == 0 && !goesInto(p[0], i)) {
                    places.add(i);
                }
                if (i < code.size()) {
                    int n = code.get(i)[0];
                    depth += n == 0 || n == 1 || n == 5 ? 1 : n == 2 || n == 6 || n == 7 || n == 11 ? -1
                            : n == 4 || n == 9 ? -2 : 0;
                }
            }
            code.get(p[0])[1] = places.get(random.nextInt(3) == 0 ? places.size() - 1
                    : random.nextInt(places.size()));
        }
    }

    private boolean goesInto(int from, int to) {
        for (int j = 0; j < code.size(); j++) {
            int end = code.get(j)[2];
            if (code.get(j)[0] == 13 && to >= j && to < end && !(from > j && from < end)) {
                return true;
            }
        }
        return false;
    }

    /** Every other time, something becomes another thing. */
    private void mutate() {
        int many = random.nextInt(4) - 1;
        for (int k = 0; k < many; k++) {
            int u = random.nextInt(model.units.size());
            Model.Unit unit = model.units.get(u);
            int kind = random.nextInt(14);
            if (kind == 0) {
                mutatePlace(u, unit);
            } else if (kind == 1 && unit.code.size() < 40) {
                unit.code.add(random.nextInt(unit.code.size() + 1),
                        new int[] {random.nextInt(19), random.nextInt(8), random.nextInt(8), random.nextInt(4)});
            } else if (kind == 2 && !unit.code.isEmpty()) {
                unit.code.remove(random.nextInt(unit.code.size()));
            } else if (!unit.code.isEmpty()) {
                mutateInstruction(unit);
            }
        }
    }

    private void mutatePlace(int u, Model.Unit unit) {
        int newPlace = random.nextInt(4) == 0 ? -1 : random.nextInt(model.t);
        int newFrame = random.nextInt(3) == 0 ? random.nextInt(30) : unit.frame;
        Model.Unit other = new Model.Unit(newFrame, random.nextBoolean() ? unit.place : newPlace);
        other.code.addAll(unit.code);
        model.units.set(u, other);
    }

    private void mutateInstruction(Model.Unit unit) {
        int at = random.nextInt(unit.code.size());
        // Twelves, thirteens and fourteens are rarer than what they rule: they are sought out more often.
        for (int k = 0; k < 6 && random.nextInt(3) > 0 && (unit.n(at) < 10 || unit.n(at) > 14); k++) {
            at = random.nextInt(unit.code.size());
        }
        unit.code.set(at, another(unit.code.get(at), unit.code.size()));
    }

    /** An instruction of a unit of some size with something changed. */
    int[] another(int[] instruction, int size) {
        int[] it = instruction.clone();
        int field = random.nextInt(4);
        int kind = random.nextInt(7);
        if (kind == 0) {
            it[field] = random.nextInt(-2, 28);
        } else if (kind <= 3) {
            it[field] += random.nextInt(5) - 2;
        } else if (kind == 4) {
            it[field] = random.nextInt(size + 2);
        } else if (kind == 5 && it[0] == 12) {
            it[2] = new int[] {0, 1, 100, 1000, 1000000, 1000001, -1}[random.nextInt(7)];
        } else {
            it[1 + random.nextInt(3)] = new int[] {-1, 0, Integer.MAX_VALUE, Integer.MIN_VALUE, 4096, 25,
                8}[random.nextInt(7)];
        }
        return it;
    }
}
