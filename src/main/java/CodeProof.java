/**
 * Rows of instructions for a machine with a stack are proved: refused at the first instruction that is wrong, or
 * accepted with the greatest number of steps that they can ever take.
 */
public final class CodeProof {
    public static final int BAD = -1;

    private static final int MOST_CELLS = 4096;
    private static final int MOST_UNITS = 16;
    private static final int MOST_INSTRUCTIONS = 256;
    private static final int MOST_DEPTH = 64;
    private static final int MOST_TURNS = 1000000;
    private static final int MOST_STEPS = 1000000000;
    private static final int MOST_WALKED = 1000000;
    private static final int WALK_BITS = 62;
    private static final int FIRST_CELLS = 64;

    private static final int NO_PLACE = -1;
    private static final int NOWHERE = -1;
    private static final int NO_WAY = -1;
    private static final int NO_NUMBER = -1;
    private static final int NO_CELLS_NAMED = -1;

    private static final int LOAD = 1;
    private static final int STORE = 2;
    private static final int TAKE = 3;
    private static final int PUT = 4;
    private static final int READ = 5;
    private static final int WRITE = 6;
    private static final int TWO = 7;
    private static final int ONE = 8;
    private static final int GO = 10;
    private static final int UNLESS = 11;
    private static final int COUNT = 12;
    private static final int NEXT = 13;
    private static final int BACK = 14;
    private static final int ENTER = 15;
    private static final int CALL = 16;
    private static final int BLOCK = 17;
    private static final int LEAVE = 18;

    private static final int LAST_TWO = 24;
    private static final int LAST_ONE = 7;
    private static final int LAST_WIDE_BLOCK = 4;
    private static final int LAST_BLOCK = 8;
    private static final int WIDE_BLOCK_CELLS = 6;
    private static final int NARROW_BLOCK_CELLS = 3;

    private static final int[] TAKEN = {0, 0, 1, 1, 2, 0, 1, 2, 1, 3, 0, 1, 0, 0, 0, 0, 0, 0, 0};
    private static final int[] LEFT = {1, 1, 0, 1, 0, 1, 0, 1, 1, 1, 0, 0, 0, 0, 0, 0, 0, 0, 0};

    private static final int FAULT_PLACE = 1;
    private static final int FAULT_FORM = 2;
    private static final int FAULT_UNIT = 3;
    private static final int FAULT_CELL = 4;
    private static final int FAULT_COUNTER = 5;
    private static final int FAULT_TARGET = 6;
    private static final int FAULT_LOOP = 7;
    private static final int FAULT_EMPTY = 8;
    private static final int FAULT_FULL = 9;
    private static final int FAULT_DEPTHS = 10;
    private static final int FAULT_STEPS = 11;

    private final Code code;
    private final Proof proof;
    private final Walker walker;

    public CodeProof() {
        code = new Code();
        proof = new Proof(code);
        walker = new Walker(code);
    }

    public int begin(int t) {
        if (t < 1 || t > MOST_CELLS) {
            return BAD;
        }
        code.clear(t);
        proof.forget();
        return t;
    }

    public int unit(int frame, int place) {
        boolean fits = frame >= 0 && frame <= MOST_CELLS && place >= NO_PLACE && place < MOST_CELLS;
        int made = fits ? code.newUnit(frame, place) : BAD;
        if (made != BAD) {
            proof.forget();
        }
        return made;
    }

    public int add(int number, int a, int b, int c) {
        int made = code.newInstruction(number, a, b, c);
        if (made != BAD) {
            proof.forget();
        }
        return made;
    }

    public int change(int unit, int i, int number, int a, int b, int c) {
        if (i < 0 || i >= code.sizeOf(unit)) {
            return BAD;
        }
        proof.forget();
        code.at(unit, i).become(number, a, b, c);
        return 0;
    }

    public int prove() {
        return proof.search();
    }

    public int count(int which) {
        switch (which) {
            case 0:
                return proof.fault;
            case 1:
                return proof.faultUnit;
            case 2:
                return proof.faultInstruction;
            case 3:
                return code.unitCount;
            case 4:
                return code.instructionCount;
            default:
                return BAD;
        }
    }

    public int steps(int unit) {
        return proof.accepts(unit) ? proof.ways.stepsOf(unit) : BAD;
    }

    public int depth(int unit) {
        return proof.accepts(unit) ? proof.stack.deepestOf(unit) : BAD;
    }

    public int walk(long bits) {
        return proof.accepts(code.program()) ? walker.walked(bits) : BAD;
    }

    private static final class Instruction {
        int number = NO_NUMBER;
        int a;
        int b;
        int c;

        void become(int newNumber, int newA, int newB, int newC) {
            number = newNumber;
            a = newA;
            b = newB;
            c = newC;
        }

        boolean namesCounter() {
            return number == COUNT || number == NEXT;
        }

        boolean beginsUnit() {
            return number == ENTER || number == CALL;
        }
    }

    /** The units and their instructions; instructions of all units lie in one row, as only the last unit grows. */
    private static final class Code {
        private final Instruction[] rows = new Instruction[MOST_INSTRUCTIONS];
        private final Instruction nothing = new Instruction();
        private final int[] starts = new int[MOST_UNITS];
        private final int[] sizes = new int[MOST_UNITS];
        private final int[] frames = new int[MOST_UNITS];
        private final int[] places = new int[MOST_UNITS];
        int cellCount = FIRST_CELLS;
        int unitCount;
        int instructionCount;

        Code() {
            for (int row = 0; row < MOST_INSTRUCTIONS; row++) {
                rows[row] = new Instruction();
            }
        }

        void clear(int cells) {
            cellCount = cells;
            unitCount = 0;
            instructionCount = 0;
        }

        int newUnit(int frame, int place) {
            if (unitCount >= MOST_UNITS) {
                return BAD;
            }
            starts[unitCount] = instructionCount;
            sizes[unitCount] = 0;
            frames[unitCount] = frame;
            places[unitCount] = place;
            unitCount++;
            return unitCount - 1;
        }

        int newInstruction(int number, int a, int b, int c) {
            int last = unitCount - 1;
            if (last < 0 || instructionCount >= MOST_INSTRUCTIONS) {
                return BAD;
            }
            rows[instructionCount].become(number, a, b, c);
            instructionCount++;
            sizes[last]++;
            return sizes[last] - 1;
        }

        boolean has(int unit) {
            return unit >= 0 && unit < unitCount;
        }

        int program() {
            return unitCount - 1;
        }

        int sizeOf(int unit) {
            return unit >= 0 && unit < unitCount ? sizes[unit] : 0;
        }

        int frameOf(int unit) {
            return unit >= 0 && unit < unitCount ? frames[unit] : 0;
        }

        int placeOf(int unit) {
            return unit >= 0 && unit < unitCount ? places[unit] : NO_PLACE;
        }

        int rowOf(int unit, int i) {
            if (unit < 0 || unit >= unitCount || i < 0 || i >= sizes[unit]) {
                return NOWHERE;
            }
            return starts[unit] + i;
        }

        /** Where no instruction is, one with a number that is none: so a neighbour may be asked for at the edges. */
        Instruction at(int unit, int i) {
            if (unit < 0 || unit >= unitCount || i < 0 || i >= sizes[unit]) {
                return nothing;
            }
            return rows[starts[unit] + i];
        }
    }

    /** Looks at the instructions of a unit in order. */
    private abstract static class Pass {
        final Code code;

        Pass(Code code) {
            this.code = code;
        }

        abstract void open(int unit);

        abstract int faultAt(int unit, int i);
    }

    /** What an instruction says by itself: faults 2 to 6. */
    private static final class FormPass extends Pass {
        FormPass(Code code) {
            super(code);
        }

        void open(int unit) {
        }

        int faultAt(int unit, int i) {
            Instruction it = code.at(unit, i);
            if (hasWrongForm(it)) {
                return FAULT_FORM;
            }
            if (namesWrongUnit(unit, it)) {
                return FAULT_UNIT;
            }
            if (namesCellOutside(unit, it)) {
                return FAULT_CELL;
            }
            if (namesCounterAsCell(unit, it)) {
                return FAULT_COUNTER;
            }
            return goesWrong(unit, i, it) ? FAULT_TARGET : 0;
        }

        private boolean hasWrongForm(Instruction it) {
            switch (it.number) {
                case TAKE:
                case PUT:
                    return it.c < 1;
                case TWO:
                    return it.a < 0 || it.a > LAST_TWO;
                case ONE:
                    return it.a < 0 || it.a > LAST_ONE;
                case COUNT:
                    return it.b < 0 || it.b > MOST_TURNS;
                case BLOCK:
                    return it.a < 0 || it.a > LAST_BLOCK;
                default:
                    return it.number < 0 || it.number > LEAVE;
            }
        }

        private boolean namesWrongUnit(int unit, Instruction it) {
            switch (it.number) {
                case READ:
                case WRITE:
                case CALL:
                    return it.a < 0 || it.a >= unit || code.placeOf(it.a) == NO_PLACE;
                case ENTER:
                    return it.a < 0 || it.a >= unit || code.placeOf(it.a) != NO_PLACE;
                default:
                    return false;
            }
        }

        private boolean namesCellOutside(int unit, Instruction it) {
            int cells = cellsNamed(it);
            if (cells == NO_CELLS_NAMED) {
                return false;
            }
            int first = firstCell(it);
            // Without cells none can lie outside, however far on the first one would be.
            return first < 0 || (cells > 0 && (long) first + cells > code.frameOf(ownerOfCells(unit, it)));
        }

        private boolean namesCounterAsCell(int unit, Instruction it) {
            int cells = cellsNamed(it);
            if (cells < 1 || it.namesCounter()) {
                return false;
            }
            int owner = ownerOfCells(unit, it);
            long first = firstCell(it);
            int size = code.sizeOf(owner);
            for (int i = 0; i < size; i++) {
                Instruction other = code.at(owner, i);
                if (other.namesCounter() && other.a >= first && other.a < first + cells) {
                    return true;
                }
            }
            return false;
        }

        private boolean goesWrong(int unit, int i, Instruction it) {
            switch (it.number) {
                case GO:
                case UNLESS:
                    return it.a <= i || it.a > code.sizeOf(unit);
                case NEXT:
                    return it.b <= i || it.b > code.sizeOf(unit);
                case BACK:
                    return it.a < 0 || it.a >= i;
                default:
                    return false;
            }
        }

        private int ownerOfCells(int unit, Instruction it) {
            return it.number == READ || it.number == WRITE ? it.a : unit;
        }

        private int firstCell(Instruction it) {
            switch (it.number) {
                case READ:
                case WRITE:
                case ENTER:
                case BLOCK:
                    return it.b;
                default:
                    return it.a;
            }
        }

        private int cellsNamed(Instruction it) {
            switch (it.number) {
                case LOAD:
                case STORE:
                case READ:
                case WRITE:
                case COUNT:
                case NEXT:
                    return 1;
                case TAKE:
                case PUT:
                    return it.c;
                case ENTER:
                    return code.frameOf(it.a);
                case BLOCK:
                    return it.a <= LAST_WIDE_BLOCK ? WIDE_BLOCK_CELLS : NARROW_BLOCK_CELLS;
                default:
                    return NO_CELLS_NAMED;
            }
        }
    }

    /** Loops: fault 7. */
    private static final class LoopPass extends Pass {
        private final int[] nexts = new int[MOST_INSTRUCTIONS];
        private int nextCount;

        LoopPass(Code code) {
            super(code);
        }

        void open(int unit) {
            nextCount = 0;
            int size = code.sizeOf(unit);
            for (int i = 0; i < size; i++) {
                if (code.at(unit, i).number == NEXT && nextCount < MOST_INSTRUCTIONS) {
                    nexts[nextCount] = i;
                    nextCount++;
                }
            }
        }

        int faultAt(int unit, int i) {
            Instruction it = code.at(unit, i);
            boolean wrong;
            switch (it.number) {
                case GO:
                case UNLESS:
                    wrong = goesIntoLoop(unit, i, it.a);
                    break;
                case COUNT:
                    wrong = isWrongCount(unit, i, it);
                    break;
                case NEXT:
                    wrong = isWrongNext(unit, i, it);
                    break;
                case BACK:
                    wrong = isWrongBack(unit, i, it);
                    break;
                default:
                    wrong = false;
                    break;
            }
            return wrong ? FAULT_LOOP : 0;
        }

        private boolean goesIntoLoop(int unit, int from, int to) {
            for (int k = 0; k < nextCount; k++) {
                int next = nexts[k];
                int end = code.at(unit, next).b;
                boolean comes = to >= next && to < end;
                boolean isIn = from > next && from < end;
                if (comes && !isIn) {
                    return true;
                }
            }
            return false;
        }

        private boolean isWrongCount(int unit, int i, Instruction it) {
            Instruction behind = code.at(unit, i + 1);
            if (behind.number != NEXT || behind.a != it.a) {
                return true;
            }
            for (int k = 0; k < nextCount; k++) {
                Instruction next = code.at(unit, nexts[k]);
                if (next.a == it.a && i > nexts[k] && i < next.b) {
                    return true;
                }
            }
            return false;
        }

        private boolean isWrongNext(int unit, int i, Instruction it) {
            Instruction before = code.at(unit, i - 1);
            if (before.number != COUNT || before.a != it.a) {
                return true;
            }
            Instruction last = code.at(unit, it.b - 1);
            if (last.number != BACK || last.a != i) {
                return true;
            }
            for (int k = 0; k < nextCount; k++) {
                int end = code.at(unit, nexts[k]).b;
                if (i > nexts[k] && i < end && it.b > end) {
                    return true;
                }
            }
            return false;
        }

        private boolean isWrongBack(int unit, int i, Instruction it) {
            Instruction next = code.at(unit, it.a);
            return next.number != NEXT || next.b != i + 1;
        }
    }

    /** The stack: faults 8 to 10, and how deep it becomes. */
    private static final class StackPass extends Pass {
        private final int[] depths = new int[MOST_INSTRUCTIONS + 1];
        private final int[] deepest = new int[MOST_UNITS];
        private int size;

        StackPass(Code code) {
            super(code);
        }

        int deepestOf(int unit) {
            return unit >= 0 && unit < MOST_UNITS ? deepest[unit] : 0;
        }

        void open(int unit) {
            size = Math.min(code.sizeOf(unit), MOST_INSTRUCTIONS);
            for (int i = 0; i < size; i++) {
                depths[i] = NO_WAY;
            }
            depths[0] = 0;
            depths[size] = 0;
            if (unit >= 0 && unit < MOST_UNITS) {
                deepest[unit] = 0;
            }
        }

        int faultAt(int unit, int i) {
            Instruction it = code.at(unit, i);
            boolean known = it.number >= 0 && it.number < TAKEN.length;
            if (!known || i < 0 || i >= size || depths[i] == NO_WAY) {
                return 0;
            }
            int depth = depths[i];
            if (TAKEN[it.number] > depth) {
                return FAULT_EMPTY;
            }
            int behind = depth - TAKEN[it.number] + LEFT[it.number];
            if (behind > MOST_DEPTH) {
                return FAULT_FULL;
            }
            if (!goesOn(i, it, behind)) {
                return FAULT_DEPTHS;
            }
            noteDepth(unit, behind);
            if (it.beginsUnit()) {
                noteDepth(unit, depth + deepestOf(it.a));
            }
            return 0;
        }

        private boolean goesOn(int i, Instruction it, int depth) {
            switch (it.number) {
                case GO:
                case BACK:
                    return comesTo(it.a, depth);
                case UNLESS:
                    return comesTo(it.a, depth) && comesTo(i + 1, depth);
                case NEXT:
                    return comesTo(it.b, depth) && comesTo(i + 1, depth);
                case LEAVE:
                    return comesTo(size, depth);
                default:
                    return comesTo(i + 1, depth);
            }
        }

        private boolean comesTo(int i, int depth) {
            if (i < 0 || i > size) {
                return false;
            }
            if (depths[i] == NO_WAY) {
                depths[i] = depth;
            }
            return depths[i] == depth;
        }

        private void noteDepth(int unit, int depth) {
            if (unit >= 0 && unit < MOST_UNITS && depth > deepest[unit]) {
                deepest[unit] = depth;
            }
        }
    }

    /**
     * The greatest number of steps of a unit. A way is longest when it leaves a loop in its last round, all rounds
     * before being whole ones: so a loop is passed once, with the steps of its other rounds put in front.
     */
    private static final class Ways {
        // More than these are all the same: too many. Sums and products of them stay far within a long.
        private static final long TOO_MANY = MOST_STEPS + 1L;

        private final Code code;
        private final long[] before = new long[MOST_INSTRUCTIONS + 1];
        private final long[] rounds = new long[MOST_INSTRUCTIONS];
        private final int[] greatest = new int[MOST_UNITS];

        Ways(Code code) {
            this.code = code;
        }

        int stepsOf(int unit) {
            return unit >= 0 && unit < MOST_UNITS ? greatest[unit] : 0;
        }

        /** Whether the unit's steps are few enough; the units before it must have been measured. */
        boolean measure(int unit) {
            int size = Math.min(code.sizeOf(unit), MOST_INSTRUCTIONS);
            // Inner loops begin behind outer ones, so their rounds are known when an outer one needs them.
            for (int i = size - 1; i >= 0; i--) {
                Instruction it = code.at(unit, i);
                if (it.number == NEXT) {
                    long toBack = longest(unit, i + 1, it.b - 1, 1);
                    rounds[i] = toBack == NO_WAY ? NO_WAY : toBack + 1;
                }
            }
            long steps = longest(unit, 0, size, 0);
            if (steps > MOST_STEPS || unit < 0 || unit >= MOST_UNITS) {
                return false;
            }
            greatest[unit] = (int) steps;
            return true;
        }

        /** The most steps with which a way comes to an instruction, not going behind it, from one begun with some. */
        private long longest(int unit, int from, int to, long steps) {
            if (from < 0 || from > to || to > MOST_INSTRUCTIONS) {
                return NO_WAY;
            }
            for (int i = from; i <= to; i++) {
                before[i] = NO_WAY;
            }
            before[from] = steps;
            for (int i = from; i < to; i++) {
                if (before[i] != NO_WAY) {
                    goOn(unit, i, to);
                }
            }
            return before[to];
        }

        private void goOn(int unit, int i, int to) {
            Instruction it = code.at(unit, i);
            long behind = before[i] + 1;
            switch (it.number) {
                case GO:
                    comeTo(it.a, to, behind);
                    break;
                case UNLESS:
                    comeTo(it.a, to, behind);
                    comeTo(i + 1, to, behind);
                    break;
                case NEXT:
                    if (code.at(unit, i - 1).b == 0) {
                        comeTo(it.b, to, behind);
                    } else {
                        comeTo(i + 1, to, behind + stepsOfRounds(i, code.at(unit, i - 1).b - 1));
                    }
                    break;
                case BACK:
                    // This is the last round: what follows is the 13 once more, which goes right behind this one.
                    comeTo(i + 1, to, behind + 1);
                    break;
                case ENTER:
                case CALL:
                    comeTo(i + 1, to, behind + stepsOf(it.a));
                    break;
                case LEAVE:
                    comeTo(code.sizeOf(unit), to, behind);
                    break;
                default:
                    comeTo(i + 1, to, behind);
                    break;
            }
        }

        /** Where no way goes through a whole round, the first round is the one in which the loop is left. */
        private long stepsOfRounds(int next, int turns) {
            if (next < 0 || next >= MOST_INSTRUCTIONS || rounds[next] == NO_WAY) {
                return 0;
            }
            return turns * rounds[next];
        }

        private void comeTo(int i, int to, long steps) {
            if (i >= 0 && i <= to && steps > before[i]) {
                before[i] = steps < TOO_MANY ? steps : TOO_MANY;
            }
        }
    }

    /** Proves units one after the other, and keeps what was found until code comes or changes. */
    private static final class Proof {
        private final Code code;
        private final FormPass forms;
        private final LoopPass loops;
        final StackPass stack;
        final Ways ways;
        private boolean accepted;
        int fault;
        int faultUnit = NOWHERE;
        int faultInstruction = NOWHERE;

        Proof(Code code) {
            this.code = code;
            forms = new FormPass(code);
            loops = new LoopPass(code);
            stack = new StackPass(code);
            ways = new Ways(code);
        }

        void forget() {
            accepted = false;
            found(0, NOWHERE, NOWHERE);
        }

        boolean accepts(int unit) {
            return accepted && code.has(unit);
        }

        int search() {
            forget();
            for (int unit = 0; unit < code.unitCount; unit++) {
                if (isRefused(unit)) {
                    return fault;
                }
            }
            accepted = true;
            return 0;
        }

        private boolean isRefused(int unit) {
            if (isMisplaced(unit)) {
                return found(FAULT_PLACE, unit, NOWHERE);
            }
            if (stopsIn(forms, unit) || stopsIn(loops, unit) || stopsIn(stack, unit)) {
                return true;
            }
            return !ways.measure(unit) && found(FAULT_STEPS, unit, NOWHERE);
        }

        private boolean isMisplaced(int unit) {
            int place = code.placeOf(unit);
            if (unit == code.program() && place != 0) {
                return true;
            }
            int frame = code.frameOf(unit);
            // A unit without cells shares none, and has none beyond the last one, wherever it is.
            if (place == NO_PLACE || frame == 0) {
                return false;
            }
            int end = place + frame;
            if (end > code.cellCount) {
                return true;
            }
            for (int other = 0; other < unit; other++) {
                int otherPlace = code.placeOf(other);
                int otherEnd = otherPlace + code.frameOf(other);
                if (otherPlace != NO_PLACE && Math.max(place, otherPlace) < Math.min(end, otherEnd)) {
                    return true;
                }
            }
            return false;
        }

        private boolean stopsIn(Pass pass, int unit) {
            pass.open(unit);
            int size = code.sizeOf(unit);
            for (int i = 0; i < size; i++) {
                int wrong = pass.faultAt(unit, i);
                if (wrong != 0) {
                    return found(wrong, unit, i);
                }
            }
            return false;
        }

        private boolean found(int newFault, int unit, int instruction) {
            fault = newFault;
            faultUnit = unit;
            faultInstruction = instruction;
            return newFault != 0;
        }
    }

    /** Goes a way through proved code. */
    private static final class Walker {
        private final Code code;
        // In proved code nothing but its own 12 and 13 reaches a loop's counter, so it is held at the place of its 12.
        private final int[] counters = new int[MOST_INSTRUCTIONS];
        private final int[] openUnits = new int[MOST_UNITS];
        private final int[] openAts = new int[MOST_UNITS];
        private int openCount;
        private int unit;
        private int size;
        private int at;
        private int choices;

        Walker(Code code) {
            this.code = code;
        }

        int walked(long bits) {
            openCount = 0;
            choices = 0;
            goTo(code.program(), 0);
            for (int taken = 0; taken < MOST_WALKED; taken++) {
                if (at >= size && !comesBack()) {
                    return taken;
                }
                takeStep(code.at(unit, at), bits);
            }
            return MOST_WALKED;
        }

        private void goTo(int newUnit, int newAt) {
            unit = newUnit;
            size = code.sizeOf(newUnit);
            at = newAt;
        }

        /** Whether one of the units that began those that have ended goes on. */
        private boolean comesBack() {
            while (at >= size && openCount > 0 && openCount <= MOST_UNITS) {
                openCount--;
                goTo(openUnits[openCount], openAts[openCount]);
            }
            return at < size;
        }

        private void takeStep(Instruction it, long bits) {
            switch (it.number) {
                case GO:
                case BACK:
                    at = it.a;
                    break;
                case UNLESS:
                    at = chosen(bits) ? it.a : at + 1;
                    break;
                case COUNT:
                    setCounter(code.rowOf(unit, at), it.b);
                    at++;
                    break;
                case NEXT:
                    at = countsDown(code.rowOf(unit, at - 1)) ? at + 1 : it.b;
                    break;
                case ENTER:
                case CALL:
                    goInto(it.a);
                    break;
                case LEAVE:
                    at = size;
                    break;
                default:
                    at++;
                    break;
            }
        }

        private boolean chosen(long bits) {
            long bit = bits >>> (choices % WALK_BITS) & 1L;
            choices++;
            return bit == 1L;
        }

        private void setCounter(int row, int turns) {
            if (row >= 0 && row < MOST_INSTRUCTIONS) {
                counters[row] = turns;
            }
        }

        private boolean countsDown(int row) {
            if (row < 0 || row >= MOST_INSTRUCTIONS || counters[row] == 0) {
                return false;
            }
            counters[row]--;
            return true;
        }

        private void goInto(int begun) {
            // Units begin only units before them, so that no more than all of them are ever open.
            if (openCount >= 0 && openCount < MOST_UNITS) {
                openUnits[openCount] = unit;
                openAts[openCount] = at + 1;
                openCount++;
                goTo(begun, 0);
            }
        }
    }
}
