/** Promise 6: prove, with the faults 1 to 11, their order, and the edges of each. */
public final class FaultTest {
    private static final int LEAST = Integer.MIN_VALUE;
    private static final int MOST = Integer.MAX_VALUE;

    public static void main(String[] args) {
        places();
        forms();
        units();
        cells();
        cellsOfOtherUnits();
        counters();
        targets();
        loops();
        loopsGoneInto();
        loopsAcrossUnits();
        stackFaults();
        whereDepthsMeet();
        tooManySteps();
        orderOfFaults();
        Check.end();
    }

    private static void dueFault(String what, CodeProof x, int fault, int unit, int instruction) {
        Check.due(what + ": prove()", x.prove(), fault);
        Check.due(what + ": count(0)", x.count(0), fault);
        Check.due(what + ": count(1)", x.count(1), unit);
        Check.due(what + ": count(2)", x.count(2), instruction);
        if (fault != 0) {
            Check.due(what + ": steps(0)", x.steps(0), CodeProof.BAD);
            Check.due(what + ": depth(0)", x.depth(0), CodeProof.BAD);
            Check.due(what + ": walk(0)", x.walk(0), CodeProof.BAD);
        }
    }

    private static void dueNone(String what, CodeProof x) {
        dueFault(what, x, 0, -1, -1);
    }

    private static CodeProof placed(int t, int[]... framesAndPlaces) {
        CodeProof x = new CodeProof();
        x.begin(t);
        for (int[] u : framesAndPlaces) {
            x.unit(u[0], u[1]);
        }
        return x;
    }

    private static void places() {
        dueNone("no unit", placed(10));
        dueNone("a program on all cells", placed(10, new int[] {10, 0}));
        dueFault("a program on too many cells", placed(10, new int[] {11, 0}), 1, 0, -1);
        dueFault("a program without a place", placed(10, new int[] {1, -1}), 1, 0, -1);
        dueFault("a program at 1", placed(10, new int[] {1, 1}), 1, 0, -1);
        dueFault("a program without cells at 1", placed(10, new int[] {0, 1}), 1, 0, -1);
        dueNone("side by side", placed(10, new int[] {4, 6}, new int[] {6, 0}));
        dueFault("one cell shared", placed(10, new int[] {4, 6}, new int[] {7, 0}), 1, 1, -1);
        dueFault("one inside the other", placed(10, new int[] {2, 4}, new int[] {10, 0}), 1, 1, -1);
        dueFault("a unit reaches beyond", placed(10, new int[] {4, 7}, new int[] {6, 0}), 1, 0, -1);
        dueFault("a unit lies beyond", placed(10, new int[] {1, 4095}, new int[] {6, 0}), 1, 0, -1);
        dueNone("no cells beyond", placed(10, new int[] {0, 4095}, new int[] {6, 0}));
        dueNone("no cells inside", placed(10, new int[] {0, 3}, new int[] {6, 0}));
        dueNone("no cells twice", placed(10, new int[] {0, 3}, new int[] {0, 3}, new int[] {10, 0}));
        dueNone("no cells in a placed one", placed(10, new int[] {6, 4}, new int[] {0, 5}, new int[] {4, 0}));
        dueNone("a large unit without a place", placed(10, new int[] {4096, -1}, new int[] {10, 0}));
        dueFault("with one before the last", placed(10, new int[] {2, 8}, new int[] {1, 7}, new int[] {3, 7},
                new int[] {2, 0}), 1, 2, -1);
        dueNone("at the last cell", placed(4096, new int[] {1, 4095}, new int[] {4095, 0}));
    }

    private static void dueAt1(String what, int fault, int... it) {
        CodeProof x = Programs.program(new int[] {17, 5, 0}, it);
        Check.due(what + ": prove()", x.prove(), fault);
        Check.due(what + ": count(2)", x.count(2), fault == 0 ? -1 : 1);
    }

    private static void forms() {
        dueAt1("number 19", 2, 19);
        dueAt1("number -1", 2, -1);
        dueAt1("the least number", 2, LEAST);
        dueAt1("the greatest number", 2, MOST);
        for (int a : new int[] {-1, 25, LEAST, MOST}) {
            dueAt1("TWO " + a, 2, 7, a);
        }
        dueAt1("TWO 0 on an empty stack", 8, 7, 0);
        dueAt1("TWO 24 on an empty stack", 8, 7, 24);
        for (int a : new int[] {-1, 8, LEAST, MOST}) {
            dueAt1("ONE " + a, 2, 8, a);
        }
        dueAt1("ONE 0 on an empty stack", 8, 8, 0);
        dueAt1("ONE 7 on an empty stack", 8, 8, 7);
        for (int b : new int[] {-1, 1000001, LEAST, MOST}) {
            dueAt1("COUNT 0 " + b, 2, 12, 9, b);
        }
        dueAt1("COUNT of 0 without a loop", 7, 12, 9, 0);
        dueAt1("COUNT of a million without a loop", 7, 12, 9, 1000000);
        for (int a : new int[] {-1, 9, LEAST, MOST}) {
            dueAt1("BLOCK " + a, 2, 17, a, 0);
        }
        for (int a = 0; a <= 8; a++) {
            dueAt1("BLOCK " + a, 0, 17, a, 0);
        }
        for (int c : new int[] {0, -1, LEAST}) {
            dueAt1("TAKE of " + c, 2, 3, 0, 0, c);
            dueAt1("PUT of " + c, 2, 4, 0, 0, c);
        }
        dueAt1("PUSH of anything", 10, 0, LEAST, MOST, -7);
        dueAt1("CHOOSE with operands", 8, 9, LEAST, MOST, -7);
        dueAt1("LEAVE with operands", 0, 18, LEAST, MOST, -7);
    }

    /** Units 0 (at 60, 4 cells) and 1 (no place, 3 cells) before unit 2 with the instruction, and unit 3, the program. */
    private static void dueBehindUnits(String what, int fault, int... it) {
        CodeProof x = new CodeProof();
        x.unit(4, 60);
        x.unit(3, -1);
        x.unit(5, 50);
        x.add(17, 5, 0, 0);
        Programs.addAll(x, it);
        x.unit(10, 0);
        Check.due(what + ": prove()", x.prove(), fault);
        Check.due(what + ": count(1)", x.count(1), fault == 0 ? -1 : 2);
        Check.due(what + ": count(2)", x.count(2), fault == 0 ? -1 : 1);
    }

    private static void units() {
        for (int number : new int[] {5, 6, 15, 16}) {
            for (int a : new int[] {-1, 2, 3, 4, 16, LEAST, MOST}) {
                dueBehindUnits(number + " of unit " + a, 3, number, a, 0);
            }
        }
        dueBehindUnits("READ of a unit without a place", 3, 5, 1, 0);
        dueBehindUnits("WRITE to a unit without a place", 3, 6, 1, 0);
        dueBehindUnits("CALL of a unit without a place", 3, 16, 1, 0);
        dueBehindUnits("ENTER of a unit with a place", 3, 15, 0, 0);
        dueBehindUnits("READ", 10, 5, 0, 0);
        dueBehindUnits("WRITE on an empty stack", 8, 6, 0, 0);
        dueBehindUnits("CALL", 0, 16, 0, 99);
        dueBehindUnits("ENTER", 0, 15, 1, 0);
    }

    private static void cells() {
        for (int a : new int[] {-1, 10, LEAST, MOST}) {
            dueAt1("LOAD " + a, 4, 1, a);
            dueAt1("STORE " + a, 4, 2, a);
            dueAt1("COUNT " + a, 4, 12, a, 0);
            dueAt1("NEXT " + a, 4, 13, a, 2);
            dueAt1("TAKE from " + a, 4, 3, a, 0, 1);
            dueAt1("PUT from " + a, 4, 4, a, 0, 1);
        }
        dueAt1("LOAD of the last cell", 10, 1, 9);
        dueAt1("STORE to the last cell, on an empty stack", 8, 2, 9);
        dueAt1("TAKE of all", 8, 3, 0, 0, 10);
        dueAt1("TAKE of one too many", 4, 3, 0, 0, 11);
        dueAt1("TAKE of one too many behind", 4, 3, 1, 0, 10);
        dueAt1("PUT of all", 8, 4, 0, 0, 10);
        dueAt1("PUT of one too many", 4, 4, 1, 0, 10);
        dueAt1("PUT whose end wraps round", 4, 4, MOST, MOST, MOST);
        dueAt1("TAKE whose end wraps round", 4, 3, 2, 0, MOST);
        dueAt1("TAKE from before, ending inside", 4, 3, -1, 0, 3);
        for (int kind = 0; kind <= 8; kind++) {
            int cells = kind <= 4 ? 6 : 3;
            dueAt1("BLOCK " + kind + " at the end", 0, 17, kind, 10 - cells);
            dueAt1("BLOCK " + kind + " beyond the end", 4, 17, kind, 11 - cells);
            dueAt1("BLOCK " + kind + " at -1", 4, 17, kind, -1);
            dueAt1("BLOCK " + kind + " whose end wraps round", 4, 17, kind, MOST);
            dueAt1("BLOCK " + kind + " at the least", 4, 17, kind, LEAST);
        }
    }

    private static void cellsOfOtherUnits() {
        for (int b : new int[] {-1, 4, LEAST, MOST}) {
            dueBehindUnits("READ of cell " + b, 4, 5, 0, b);
            dueBehindUnits("WRITE of cell " + b, 4, 6, 0, b);
        }
        dueBehindUnits("READ of the last cell", 10, 5, 0, 3);
        dueBehindUnits("ENTER at the end", 0, 15, 1, 2);
        for (int b : new int[] {-1, 3, LEAST, MOST}) {
            dueBehindUnits("ENTER at " + b, 4, 15, 1, b);
        }
        for (int b : new int[] {-1, LEAST}) {
            dueFault("ENTER of no cells at " + b, entersNoCells(b), 4, 1, 0);
        }
        for (int b : new int[] {0, 9, 10, 11, MOST}) {
            dueNone("ENTER of no cells at " + b, entersNoCells(b));
        }
    }

    private static CodeProof entersNoCells(int b) {
        CodeProof x = new CodeProof();
        x.unit(0, -1);
        x.unit(10, 0);
        x.add(15, 0, b, 0);
        return x;
    }

    /** An instruction in front of a loop over counter 4 in a frame of 10. */
    private static void dueBeforeLoop(String what, int fault, int... it) {
        CodeProof x = Programs.program(it, new int[] {12, 4, 2}, new int[] {13, 4, 4}, new int[] {14, 2});
        Check.due(what + ": prove()", x.prove(), fault);
        Check.due(what + ": count(2)", x.count(2), fault == 0 ? -1 : 0);
    }

    private static void counters() {
        dueBeforeLoop("LOAD of the counter", 5, 1, 4);
        dueBeforeLoop("STORE to the counter", 5, 2, 4);
        dueBeforeLoop("STORE beside the counter", 8, 2, 3);
        dueBeforeLoop("TAKE up to the counter", 5, 3, 2, 0, 3);
        dueBeforeLoop("TAKE up to right before it", 8, 3, 2, 0, 2);
        dueBeforeLoop("TAKE from the counter on", 5, 3, 4, 0, 6);
        dueBeforeLoop("TAKE from right behind it", 8, 3, 5, 0, 5);
        dueBeforeLoop("PUT over the counter", 5, 4, 0, 0, 10);
        dueBeforeLoop("BLOCK up to the counter", 5, 17, 5, 2);
        dueBeforeLoop("BLOCK up to right before it", 0, 17, 5, 1);
        dueBeforeLoop("BLOCK from right behind it", 0, 17, 8, 5);
        dueFault("LOAD of what a wrong COUNT names", Programs.program(new int[] {1, 4}, new int[] {12, 4, -1}), 5, 0, 0);
        dueFault("LOAD of what a wrong NEXT names", Programs.program(new int[] {1, 4}, new int[] {13, 4, -9}), 5, 0, 0);
        dueFault("a NEXT alone names one", Programs.program(new int[] {17, 0, 4}, new int[] {13, 9, 0}), 5, 0, 0);
        dueFault("a wrong counter names no cell", Programs.program(new int[] {17, 0, 4}, new int[] {12, 10, 0}), 4, 0, 1);
        dueNone("counters of 12 and 13 are theirs", Programs.program(new int[] {12, 4, 2}, new int[] {13, 4, 3},
                new int[] {14, 1}, new int[] {12, 4, 2}, new int[] {13, 4, 6}, new int[] {14, 4}));
        countersOfOtherUnits();
    }

    private static CodeProof withLoopUnit(int place, int[]... instructions) {
        CodeProof x = new CodeProof();
        x.unit(4, place);
        Programs.addAll(x, new int[] {12, 1, 2}, new int[] {13, 1, 3}, new int[] {14, 1});
        x.unit(10, 0);
        Programs.addAll(x, instructions);
        return x;
    }

    private static void countersOfOtherUnits() {
        int[] store = {2, 9};
        dueFault("READ of a counter", withLoopUnit(60, new int[] {5, 0, 1}, store), 5, 1, 0);
        dueFault("WRITE to a counter", withLoopUnit(60, new int[] {0, 1}, new int[] {6, 0, 1}), 5, 1, 1);
        dueNone("READ beside a counter", withLoopUnit(60, new int[] {5, 0, 2}, store));
        dueNone("own cells are not its counters", withLoopUnit(60, new int[] {1, 1}, store));
        int[][] loop = {{12, 3, 2}, {13, 3, 3}, {14, 1}};
        dueFault("ENTER over the own counter", withLoopUnit(-1, loop[0], loop[1], loop[2], new int[] {15, 0, 3}),
                5, 1, 3);
        dueFault("ENTER up to the own counter", withLoopUnit(-1, loop[0], loop[1], loop[2], new int[] {15, 0, 0}),
                5, 1, 3);
        dueNone("ENTER beside the own counter", withLoopUnit(-1, loop[0], loop[1], loop[2], new int[] {15, 0, 4}));
        dueNone("READ of a cell like the own counter", withLoopUnit(60, loop[0], loop[1], loop[2],
                new int[] {5, 0, 3}, store));
        CodeProof none = new CodeProof();
        none.unit(0, -1);
        none.unit(10, 0);
        Programs.addAll(none, loop);
        none.add(15, 0, 3, 0);
        dueNone("ENTER of no cells at a counter", none);
    }

    private static void targets() {
        for (int a : new int[] {1, 0, -1, 3, LEAST, MOST}) {
            dueAt1("GO " + a, 6, 10, a);
            dueAt1("UNLESS " + a, 6, 11, a);
            dueAt1("NEXT to " + a, 6, 13, 9, a);
        }
        dueAt1("GO to the end", 0, 10, 2);
        dueAt1("UNLESS to the end, on an empty stack", 8, 11, 2);
        dueAt1("NEXT to the end, without its COUNT", 7, 13, 9, 2);
        for (int a : new int[] {1, 2, -1, LEAST, MOST}) {
            dueAt1("BACK " + a, 6, 14, a);
        }
        dueAt1("BACK to what is no 13", 7, 14, 0);
    }

    private static void dueLoop(String what, int at, int[]... instructions) {
        dueFault(what, Programs.program(instructions), at < 0 ? 0 : 7, at < 0 ? -1 : 0, at);
    }

    private static void loops() {
        int[] block = {17, 5, 0};
        dueLoop("a loop", -1, new int[] {12, 9, 2}, new int[] {13, 9, 4}, block, new int[] {14, 1});
        dueLoop("an empty loop", -1, new int[] {12, 9, 2}, new int[] {13, 9, 3}, new int[] {14, 1});
        dueLoop("COUNT at the end", 0, new int[] {12, 9, 2});
        dueLoop("COUNT of another counter", 0, new int[] {12, 8, 2}, new int[] {13, 9, 3}, new int[] {14, 1});
        dueLoop("something between them", 0, new int[] {12, 9, 2}, block, new int[] {13, 9, 4}, new int[] {14, 2});
        dueLoop("NEXT alone", 0, new int[] {13, 9, 2}, new int[] {14, 0});
        dueLoop("NEXT behind another one's COUNT", 2, new int[] {12, 9, 2}, new int[] {13, 9, 4},
                new int[] {13, 9, 4}, new int[] {14, 1});
        dueLoop("a loop without BACK", 1, new int[] {12, 9, 2}, new int[] {13, 9, 3}, block);
        dueLoop("a loop of its 13 alone", 1, new int[] {12, 9, 2}, new int[] {13, 9, 2}, new int[] {14, 1});
        dueLoop("a loop that ends behind its BACK", 1, new int[] {12, 9, 2}, new int[] {13, 9, 4},
                new int[] {14, 1}, block);
        dueLoop("a BACK to the COUNT", 1, new int[] {12, 9, 2}, new int[] {13, 9, 3}, new int[] {14, 0});
        dueLoop("a second BACK", 2, new int[] {12, 9, 2}, new int[] {13, 9, 4}, new int[] {14, 1},
                new int[] {14, 1});
        dueLoop("a nested loop", -1, new int[] {12, 9, 2}, new int[] {13, 9, 6}, new int[] {12, 8, 2},
                new int[] {13, 8, 5}, new int[] {14, 3}, new int[] {14, 1});
        dueLoop("a nested loop with the same counter", 2, new int[] {12, 9, 2}, new int[] {13, 9, 6},
                new int[] {12, 9, 2}, new int[] {13, 9, 5}, new int[] {14, 3}, new int[] {14, 1});
        dueLoop("the same counter two loops in", 4, new int[] {12, 9, 2}, new int[] {13, 9, 9},
                new int[] {12, 8, 2}, new int[] {13, 8, 8}, new int[] {12, 9, 2}, new int[] {13, 9, 7},
                new int[] {14, 5}, new int[] {14, 3}, new int[] {14, 1});
        dueLoop("loops that cross", 3, new int[] {12, 9, 2}, new int[] {13, 9, 5}, new int[] {12, 8, 2},
                new int[] {13, 8, 6}, new int[] {14, 1}, new int[] {14, 3});
        dueLoop("loops one behind the other with one counter", -1, new int[] {12, 9, 2}, new int[] {13, 9, 3},
                new int[] {14, 1}, new int[] {12, 9, 3}, new int[] {13, 9, 6}, new int[] {14, 4});
        dueLoop("where nothing comes, loops are looked at, too", 1, new int[] {18}, new int[] {12, 9, 2}, block);
        dueLoop("COUNT right before the outer BACK", 2, new int[] {12, 9, 2}, new int[] {13, 9, 4},
                new int[] {12, 8, 2}, new int[] {14, 1});
    }

    private static void loopsGoneInto() {
        int[][] loop = {{12, 9, 2}, {13, 9, 5}, {17, 5, 0}, {14, 2}};
        for (int to = 2; to <= 5; to++) {
            boolean into = to == 2 || to == 3 || to == 4;
            dueFault("GO to " + to + " of a loop", Programs.program(new int[] {10, to}, loop[0], loop[1], loop[2], loop[3]),
                    into ? 7 : 0, into ? 0 : -1, into ? 0 : -1);
            dueFault("UNLESS to " + to + " of a loop", Programs.program(new int[] {11, to}, loop[0], loop[1], loop[2],
                    loop[3]), into ? 7 : 8, 0, 0);
        }
        dueNone("GO to a COUNT", Programs.program(new int[] {10, 1}, loop[0], loop[1], loop[2], loop[3]));
        dueNone("GO within a loop to its BACK", Programs.program(new int[] {12, 9, 2}, new int[] {13, 9, 5},
                new int[] {10, 4}, new int[] {17, 5, 0}, new int[] {14, 1}));
        dueNone("GO out of a loop to where it goes", Programs.program(new int[] {12, 9, 2}, new int[] {13, 9, 4},
                new int[] {10, 4}, new int[] {14, 1}));
        int[] gos = {5, 6, 8, 9};
        for (int to : gos) {
            dueNone("GO out of an inner loop to " + to, nest(2, to));
        }
        dueFault("GO from the outer loop into the inner one", nest(1, 5), 7, 0, 2);
        dueNone("GO from the outer loop behind the inner one", nest(1, 7));
        dueFault("GO from a loop into another one", Programs.program(new int[] {12, 9, 2}, new int[] {13, 9, 4},
                new int[] {10, 6}, new int[] {14, 1}, new int[] {12, 9, 2}, new int[] {13, 9, 7},
                new int[] {14, 5}), 7, 0, 2);
    }

    /** What is right behind and right before is looked for in the unit alone. */
    private static void loopsAcrossUnits() {
        CodeProof x = new CodeProof();
        x.unit(10, -1);
        x.add(12, 9, 2, 0);
        x.unit(10, 0);
        Programs.addAll(x, new int[] {13, 9, 2}, new int[] {14, 0});
        dueFault("COUNT at the end of a unit, NEXT in the one behind", x, 7, 0, 0);
        x.begin(64);
        x.unit(10, 0);
        Programs.addAll(x, new int[] {17, 5, 0}, new int[] {13, 9, 3}, new int[] {14, 1});
        x.begin(64);
        x.unit(10, 0);
        x.add(12, 9, 2, 0);
        dueFault("COUNT at the end, NEXT in code that is gone", x, 7, 0, 0);
        x.begin(64);
        x.unit(10, -1);
        Programs.addAll(x, new int[] {12, 9, 2}, new int[] {13, 9, 3}, new int[] {14, 1});
        x.unit(10, 0);
        Programs.addAll(x, new int[] {13, 9, 2}, new int[] {14, 0});
        dueFault("NEXT first in its unit", x, 7, 1, 0);
    }

    /** A loop in a loop, with a GO in the outer one (which 1: before the inner one) or in the inner one (which 2). */
    private static CodeProof nest(int which, int to) {
        int[] block = {17, 5, 0};
        if (which == 1) {
            return Programs.program(new int[] {12, 9, 2}, new int[] {13, 9, 9}, new int[] {10, to}, new int[] {12, 8, 2},
                    new int[] {13, 8, 7}, block, new int[] {14, 4}, block, new int[] {14, 1});
        }
        return Programs.program(new int[] {12, 9, 2}, new int[] {13, 9, 8}, new int[] {12, 8, 2}, new int[] {13, 8, 6},
                new int[] {10, to}, new int[] {14, 3}, block, new int[] {14, 1}, block);
    }

    private static void stackFaults() {
        int[] taken = {0, 0, 1, 1, 2, 0, 1, 2, 1, 3, 0, 1, 0, 0, 0, 0, 0, 0, 0};
        int[] left = {1, 1, 0, 1, 0, 1, 0, 1, 1, 1, 0, 0, 0, 0, 0, 0, 0, 0, 0};
        for (int number = 0; number <= 18; number++) {
            if (number < 12 || number > 14) {
                for (int depth = 0; depth <= 64; depth++) {
                    int behind = depth - taken[number] + left[number];
                    int fault = behind < left[number] ? 8 : behind > 64 ? 9 : behind == 0 ? 0 : 10;
                    dueFault("number " + number + " at a depth of " + depth, atDepth(depth, number), fault,
                            fault == 0 ? -1 : 2, fault == 0 ? -1 : depth);
                }
            }
        }
        CodeProof deep = atDepth(64, 18);
        deep.change(2, 64, 0, 0, 0, 0);
        dueFault("a 65th number", deep, 9, 2, 64);
    }

    /** A program, behind a unit with and one without a place, that pushes so many and then has the instruction. */
    private static CodeProof atDepth(int depth, int number) {
        CodeProof x = new CodeProof();
        x.unit(4, 60);
        x.unit(3, -1);
        x.unit(10, 0);
        for (int i = 0; i < depth; i++) {
            x.add(0, i, 0, 0);
        }
        int a = number == 10 || number == 11 ? depth + 1 : number == 15 ? 1 : 0;
        x.add(number, a, 0, 1);
        return x;
    }

    private static void whereDepthsMeet() {
        dueFault("the end with something left", Programs.program(new int[] {0}), 10, 0, 0);
        dueFault("GO to the end with something left", Programs.program(new int[] {0}, new int[] {10, 2}), 10, 0, 1);
        dueFault("LEAVE with something left", Programs.program(new int[] {0}, new int[] {18}), 10, 0, 1);
        dueFault("two ways meet with other depths", Programs.program(new int[] {0}, new int[] {11, 3}, new int[] {0},
                new int[] {2, 0}), 10, 0, 2);
        dueNone("two ways meet with the same depth", Programs.program(new int[] {0}, new int[] {11, 5}, new int[] {0},
                new int[] {2, 0}, new int[] {10, 5}, new int[] {0}, new int[] {2, 0}));
        dueFault("a round leaves something", Programs.program(new int[] {12, 9, 2}, new int[] {13, 9, 4}, new int[] {0},
                new int[] {14, 1}), 10, 0, 3);
        dueNone("a round at a depth of 1", Programs.program(new int[] {0}, new int[] {12, 9, 2}, new int[] {13, 9, 6},
                new int[] {8, 0}, new int[] {8, 7}, new int[] {14, 2}, new int[] {2, 0}));
        dueFault("a loop left with more than where its 13 goes", Programs.program(new int[] {12, 9, 2}, new int[] {13, 9, 5},
                new int[] {0}, new int[] {10, 5}, new int[] {14, 1}, new int[] {17, 5, 0}), 10, 0, 3);
        dueNone("what nothing goes to is left out", Programs.program(new int[] {18}, new int[] {2, 0}, new int[] {9},
                new int[] {0}));
        dueNone("behind GO nothing comes", Programs.program(new int[] {10, 2}, new int[] {9}, new int[] {17, 5, 0}));
        dueNone("behind LEAVE and its like nothing comes either", Programs.program(new int[] {10, 3}, new int[] {0},
                new int[] {0}, new int[] {17, 5, 0}));
        dueFault("a round that never comes is looked at, too", Programs.program(new int[] {12, 9, 0}, new int[] {13, 9, 4},
                new int[] {2, 0}, new int[] {14, 1}), 8, 0, 2);
        dueFault("behind a loop that is never gone through, too", Programs.program(new int[] {12, 9, 1}, new int[] {13, 9, 4},
                new int[] {18}, new int[] {14, 1}, new int[] {2, 0}), 8, 0, 4);
        CodeProof units = new CodeProof();
        units.unit(4, 60);
        units.add(0, 0, 0, 0);
        units.unit(4, 0);
        dueFault("every unit ends with 0", units, 10, 0, 0);
    }

    private static void tooManySteps() {
        int[][] code = {{12, 9, 1000}, {13, 9, 6}, {12, 8, 499998}, {13, 8, 5}, {14, 3}, {14, 1}};
        CodeProof x = Programs.program(code);
        // A round: 13, 12, 499,998 times 13 and 14, 13, 14: exactly 1,000,000; with 12 and the last 13 two too many.
        dueFault("1,000,000,002 steps", x, 11, 0, -1);
        x.change(0, 2, 12, 8, 499997, 0);
        dueNone("999,998,002 steps", x);
        Check.due("999,998,002 steps", x.steps(0), 999998002);
        int[][] most = {{12, 9, 999}, {13, 9, 6}, {12, 8, 499998}, {13, 8, 5}, {14, 3}, {14, 1},
            {12, 9, 499998}, {13, 9, 9}, {14, 7}};
        x = Programs.program(most);
        dueNone("a billion steps", x);
        Check.due("a billion steps", x.steps(0), 1000000000);
        x.add(17, 5, 0, 0);
        dueFault("a billion steps and one", x, 11, 0, -1);
        x.change(0, 9, 10, 10, 0, 0);
        dueFault("a billion steps and a GO", x, 11, 0, -1);
        dueNone("too many that are never taken", Programs.program(new int[] {12, 7, 0}, new int[] {13, 7, 9},
                new int[] {12, 9, 1000000}, new int[] {13, 9, 8}, new int[] {12, 8, 1000000}, new int[] {13, 8, 7},
                new int[] {14, 5}, new int[] {14, 3}, new int[] {14, 1}));
        deepestNest();
        tooManyByUnits();
    }

    private static void deepestNest() {
        CodeProof x = new CodeProof();
        x.begin(4096);
        x.unit(4096, 0);
        int loops = 85;
        for (int k = 0; k < loops; k++) {
            x.add(12, k, 1000000, 0);
            x.add(13, k, 3 * loops - k, 0);
        }
        for (int k = loops - 1; k >= 0; k--) {
            x.add(14, 2 * k + 1, 0, 0);
        }
        dueFault("85 loops of a million", x, 11, 0, -1);
        for (int k = 0; k < loops; k++) {
            x.change(0, 2 * k, 12, k, 1, 0);
        }
        dueNone("85 loops of 1", x);
        Check.due("85 loops of 1: steps", x.steps(0), 85 * 4);
        x.change(0, 0, 12, 0, 0, 0);
        for (int k = 1; k < loops; k++) {
            x.change(0, 2 * k, 12, k, 1000000, 0);
        }
        dueNone("84 loops of a million in one of 0", x);
        Check.due("84 loops of a million in one of 0: steps", x.steps(0), 2);
    }

    private static void tooManyByUnits() {
        CodeProof x = new CodeProof();
        x.unit(1, -1);
        // 2 + 4 * 249,999 = 999,998 steps.
        Programs.addAll(x, new int[] {12, 0, 249999}, new int[] {13, 0, 5}, new int[] {10, 3}, new int[] {10, 4},
                new int[] {14, 1});
        x.unit(10, 0);
        Programs.addAll(x, new int[] {12, 9, 1000}, new int[] {13, 9, 4}, new int[] {15, 0, 0}, new int[] {14, 1});
        dueFault("1000 rounds of 1,000,001", x, 11, 1, -1);
        x.change(1, 0, 12, 9, 999, 0);
        dueNone("999 rounds of 1,000,001", x);
        Check.due("999 rounds of 1,000,001", x.steps(1), 2 + 999 * 1000001);
    }

    private static void orderOfFaults() {
        CodeProof x = placed(10, new int[] {11, 0}, new int[] {5, 5});
        x.add(99, 0, 0, 0);
        dueFault("the first unit's place first", x, 1, 0, -1);
        x = placed(64, new int[] {10, 20}, new int[] {10, 1});
        dueFault("then the next unit's", x, 1, 1, -1);
        dueFault("place before instructions", placedWith99(), 1, 0, -1);
        dueFault("form of a later one before loops", Programs.program(new int[] {12, 9, 2}, new int[] {99}), 2, 0, 1);
        dueFault("target of a later one before loops", Programs.program(new int[] {12, 9, 2}, new int[] {10, 0}), 6, 0, 1);
        dueFault("a first one's target before the next one's form", Programs.program(new int[] {10, 0}, new int[] {99}), 6, 0,
                0);
        dueFault("loops of a later one before the stack", Programs.program(new int[] {9}, new int[] {12, 9, 2}), 7, 0, 1);
        dueFault("the stack before steps", Programs.program(new int[] {12, 9, 1000000}, new int[] {13, 9, 7},
                new int[] {12, 8, 1000000}, new int[] {13, 8, 6}, new int[] {17, 5, 0}, new int[] {14, 3},
                new int[] {14, 1}, new int[] {0}), 10, 0, 7);
        x = new CodeProof();
        x.unit(4, 60);
        x.add(0, 0, 0, 0);
        x.unit(4, 0);
        x.add(99, 0, 0, 0);
        dueFault("all of a unit before the next one", x, 10, 0, 0);
        dueAt1("form before unit", 2, 12, 77, -1);
        dueAt1("form before cells", 2, 3, -1, 0, 0);
        dueAt1("unit before cell", 3, 5, 0, -1);
        dueAt1("cell before target", 4, 13, 10, 0);
        dueFault("counter before the next one's cell", Programs.program(new int[] {1, 4}, new int[] {12, 4, 0},
                new int[] {1, 10}), 5, 0, 0);
        dueFault("empty before full: a fault is told once, at the first", Programs.program(new int[] {2}, new int[] {2}), 8,
                0, 0);
    }

    private static CodeProof placedWith99() {
        CodeProof x = new CodeProof();
        x.unit(4, 1);
        x.add(99, 0, 0, 0);
        return x;
    }
}
