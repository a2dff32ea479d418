/** Promises 8 to 10: steps, depth and walk of accepted code. */
public final class AnswerTest {
    private static final int LEAST = Integer.MIN_VALUE;
    private static final int MOST = Integer.MAX_VALUE;
    private static final int[] BLOCK = {17, 5, 0};
    private static final int[] PUSH = {0, 1};

    public static void main(String[] args) {
        unitsThatAreNone();
        stepsOfWays();
        stepsOfLoops();
        stepsOfLoopsLeft();
        stepsOfUnits();
        depths();
        walkBits();
        walkThroughUnits();
        walkEnds();
        walkLeavesTheProof();
        Check.end();
    }

    private static void dueSteps(String what, int steps, int[]... instructions) {
        CodeProof x = Programs.program(instructions);
        Check.due(what + ": prove()", x.prove(), 0);
        Check.due(what + ": steps(0)", x.steps(0), steps);
    }

    private static void unitsThatAreNone() {
        CodeProof x = new CodeProof();
        x.unit(4, -1);
        x.unit(4, 0);
        Check.due("steps before prove", x.steps(0), CodeProof.BAD);
        Check.due("depth before prove", x.depth(0), CodeProof.BAD);
        Check.due("walk before prove", x.walk(0), CodeProof.BAD);
        Check.due("prove", x.prove(), 0);
        for (int unit : new int[] {-1, 2, 15, 16, LEAST, MOST}) {
            Check.due("steps(" + unit + ")", x.steps(unit), CodeProof.BAD);
            Check.due("depth(" + unit + ")", x.depth(unit), CodeProof.BAD);
        }
        Check.due("steps of an empty unit", x.steps(0), 0);
        Check.due("depth of an empty unit", x.depth(1), 0);
        Check.due("walk of an empty program", x.walk(-1), 0);
    }

    private static void stepsOfWays() {
        dueSteps("one", 1, BLOCK);
        dueSteps("LEAVE is a step", 1, new int[] {18}, BLOCK, BLOCK);
        dueSteps("GO is a step", 2, new int[] {10, 2}, BLOCK, BLOCK);
        dueSteps("GO to the end", 1, new int[] {10, 3}, BLOCK, BLOCK);
        dueSteps("the longer way is straight on", 5, PUSH, new int[] {11, 4}, BLOCK, BLOCK, BLOCK);
        dueSteps("the longer way is the one that goes", 6, PUSH, new int[] {11, 3}, new int[] {18}, BLOCK, BLOCK,
                BLOCK, BLOCK);
        dueSteps("ways that are equal", 4, PUSH, new int[] {11, 4}, BLOCK, new int[] {18}, BLOCK, new int[] {18});
        dueSteps("UNLESS to the next one", 3, PUSH, new int[] {11, 2}, BLOCK);
    }

    private static void stepsOfLoops() {
        for (int k : new int[] {0, 1, 2, 7, 1000000}) {
            dueSteps("an empty loop " + k + " times", 2 + 2 * k, new int[] {12, 9, k}, new int[] {13, 9, 3},
                    new int[] {14, 1});
            dueSteps("a loop " + k + " times", 2 + 3 * k + 1, new int[] {12, 9, k}, new int[] {13, 9, 4}, BLOCK,
                    new int[] {14, 1}, BLOCK);
        }
        for (int k = 0; k < 4; k++) {
            for (int m = 0; m < 4; m++) {
                dueSteps("a loop in a loop", 2 + k * (4 + 3 * m), new int[] {12, 9, k}, new int[] {13, 9, 7},
                        new int[] {12, 8, m}, new int[] {13, 8, 6}, BLOCK, new int[] {14, 3}, new int[] {14, 1});
                dueSteps("a loop behind a loop", 4 + 2 * k + 3 * m, new int[] {12, 9, k}, new int[] {13, 9, 3},
                        new int[] {14, 1}, new int[] {12, 9, m}, new int[] {13, 9, 7}, BLOCK, new int[] {14, 4});
            }
        }
        dueSteps("the longer way in each round", 2 + 5 * 6, new int[] {12, 9, 5}, new int[] {13, 9, 7}, PUSH,
                new int[] {11, 6}, BLOCK, BLOCK, new int[] {14, 1});
    }

    /** A loop of k rounds that an UNLESS may leave to behind it, before or behind blocks; then GO over blocks. */
    private static void stepsOfLoopsLeft() {
        for (int k = 0; k < 4; k++) {
            int rounds = Math.max(0, k - 1);
            int whole = 2 + 4 * k + 1;
            int left = k == 0 ? 0 : 1 + 4 * rounds + 3 + 4;
            dueSteps("a loop left in its last round of " + k, Math.max(whole, left), new int[] {12, 9, k},
                    new int[] {13, 9, 5}, PUSH, new int[] {11, 6}, new int[] {14, 1}, new int[] {18}, BLOCK, BLOCK,
                    BLOCK, BLOCK);
            dueSteps("a loop that never ends a round of " + k, k == 0 ? 2 + 3 : 3, new int[] {12, 9, k},
                    new int[] {13, 9, 4}, new int[] {18}, new int[] {14, 1}, BLOCK, BLOCK, BLOCK);
            dueSteps("a loop left by GO of " + k, k == 0 ? 2 + 4 : 3 + 1, new int[] {12, 9, k}, new int[] {13, 9, 4},
                    new int[] {10, 7}, new int[] {14, 1}, BLOCK, BLOCK, BLOCK, BLOCK);
        }
        dueSteps("an inner loop that leaves the outer one", 1 + 2 * 13 + 2 + 4 + 3 + 7, new int[] {12, 9, 3},
                new int[] {13, 9, 9}, new int[] {12, 8, 2}, new int[] {13, 8, 7}, PUSH, new int[] {11, 10},
                new int[] {14, 3}, new int[] {10, 8}, new int[] {14, 1}, new int[] {18}, BLOCK, BLOCK, BLOCK, BLOCK,
                BLOCK, BLOCK, BLOCK);
        dueSteps("an inner loop that ends the outer round only by leaving", 2 + 3 * 5, new int[] {12, 9, 3},
                new int[] {13, 9, 8}, new int[] {12, 8, 9}, new int[] {13, 8, 6}, new int[] {10, 7},
                new int[] {14, 3}, BLOCK, new int[] {14, 1});
    }

    private static void stepsOfUnits() {
        CodeProof x = new CodeProof();
        x.unit(4, -1);
        Programs.addAll(x, BLOCK, BLOCK, BLOCK);
        x.unit(4, 60);
        Programs.addAll(x, new int[] {15, 0, 0}, BLOCK);
        x.unit(0, 50);
        x.unit(20, 0);
        Programs.addAll(x, new int[] {16, 1}, new int[] {12, 9, 10}, new int[] {13, 9, 5}, new int[] {15, 0, 0},
                new int[] {14, 2}, new int[] {16, 2});
        x.change(3, 3, 15, 0, 10, 0);
        Check.due("units in units: prove", x.prove(), 0);
        Check.due("units in units: steps(0)", x.steps(0), 3);
        Check.due("units in units: steps(1)", x.steps(1), 5);
        Check.due("units in units: steps(2)", x.steps(2), 0);
        Check.due("units in units: steps(3)", x.steps(3), 6 + 2 + 10 * 6 + 1);
        Check.due("units in units: walk", x.walk(0), 69);
    }

    private static void dueDepth(String what, int depth, int[]... instructions) {
        CodeProof x = Programs.program(instructions);
        Check.due(what + ": prove()", x.prove(), 0);
        Check.due(what + ": depth(0)", x.depth(0), depth);
    }

    private static void depths() {
        dueDepth("nothing", 0, BLOCK);
        dueDepth("one", 1, PUSH, new int[] {2, 0});
        dueDepth("three", 3, PUSH, PUSH, PUSH, new int[] {9}, new int[] {2, 0});
        dueDepth("the greater one of two ways", 2, PUSH, new int[] {11, 6}, PUSH, PUSH, new int[] {4, 0, 0, 2},
                new int[] {18}, PUSH, new int[] {2, 0});
        dueDepth("what nothing goes to is left out", 1, PUSH, new int[] {2, 0}, new int[] {18}, PUSH, PUSH,
                new int[] {7, 0}, new int[] {2, 0});
        dueDepth("a round that never comes counts", 1, new int[] {12, 9, 0}, new int[] {13, 9, 5}, PUSH,
                new int[] {2, 0}, new int[] {14, 1});
        CodeProof x = new CodeProof();
        for (int u = 0; u < 16; u++) {
            x.unit(1, u == 15 ? 0 : -1);
            for (int i = 0; i < 5; i++) {
                Programs.addAll(x, PUSH);
            }
            if (u > 0) {
                x.add(15, u - 1, 0, 0);
            }
            for (int i = 0; i < 5; i++) {
                x.add(2, 0, 0, 0);
            }
        }
        Check.due("units on top of units: prove", x.prove(), 0);
        for (int u = 0; u < 16; u++) {
            Check.due("units on top of units: depth(" + u + ")", x.depth(u), 5 * (u + 1));
            Check.due("units on top of units: steps(" + u + ")", x.steps(u), 11 * (u + 1) - 1);
        }
        Check.due("units on top of units: walk", x.walk(-1), 175);
        depthsOfUnitsNotBegun();
    }

    private static void depthsOfUnitsNotBegun() {
        CodeProof x = new CodeProof();
        x.unit(1, 60);
        Programs.addAll(x, PUSH, PUSH, new int[] {7, 24}, new int[] {2, 0});
        x.unit(1, 0);
        Programs.addAll(x, PUSH, new int[] {2, 0}, new int[] {16, 0}, new int[] {18}, PUSH, new int[] {16, 0});
        Check.due("begun where the stack is empty: prove", x.prove(), 0);
        Check.due("begun where the stack is empty", x.depth(1), 2);
        x.change(1, 2, 18, 0, 0, 0);
        Check.due("begun where nothing goes: prove", x.prove(), 0);
        Check.due("begun where nothing goes", x.depth(1), 1);
        x.change(1, 1, 16, 0, 0, 0);
        x.change(1, 2, 2, 0, 0, 0);
        Check.due("begun on one number: prove", x.prove(), 0);
        Check.due("begun on one number", x.depth(1), 3);
    }

    private static void walkBits() {
        CodeProof x = Programs.program(new int[] {12, 9, 130}, new int[] {13, 9, 6}, PUSH, new int[] {11, 5}, BLOCK,
                new int[] {14, 1});
        Check.due("130 choices: prove", x.prove(), 0);
        Check.due("130 choices: steps", x.steps(0), 2 + 130 * 5);
        Check.due("130 choices: none", x.walk(0), 2 + 130 * 5);
        Check.due("130 choices: all", x.walk(-1L), 2 + 130 * 4);
        for (int bit = 0; bit < 64; bit++) {
            int times = bit < 6 ? 3 : bit < 62 ? 2 : 0;
            Check.due("130 choices: bit " + bit, x.walk(1L << bit), 2 + 130 * 5 - times);
        }
        Check.due("130 choices: the least", x.walk(Long.MIN_VALUE), 2 + 130 * 5);
        Check.due("130 choices: the greatest", x.walk(Long.MAX_VALUE), 2 + 130 * 4);
        x = Programs.program(PUSH, new int[] {11, 2}, PUSH, new int[] {11, 6}, BLOCK, BLOCK, BLOCK);
        Check.due("UNLESS to the next one: prove", x.prove(), 0);
        Check.due("UNLESS to the next one counts as a choice", x.walk(1), 7);
        Check.due("the choice behind it", x.walk(2), 5);
    }

    private static void walkThroughUnits() {
        CodeProof x = new CodeProof();
        x.unit(2, -1);
        Programs.addAll(x, PUSH, new int[] {11, 3}, BLOCK);
        x.change(0, 2, 10, 3, 0, 0);
        x.unit(4, 60);
        Programs.addAll(x, new int[] {15, 0, 2}, PUSH, new int[] {11, 4}, new int[] {18});
        x.unit(10, 0);
        Programs.addAll(x, new int[] {12, 9, 2}, new int[] {13, 9, 5}, new int[] {16, 1}, new int[] {15, 0, 0},
                new int[] {14, 1});
        Check.due("choices of all units: prove", x.prove(), 0);
        // A round: 13, CALL, ENTER, PUSH, UNLESS, (GO), PUSH, UNLESS, (LEAVE), ENTER, PUSH, UNLESS, (GO), BACK.
        int none = 2 + 2 * 14;
        Check.due("choices of all units: steps", x.steps(2), none);
        for (int bits = 0; bits < 64; bits++) {
            Check.due("choices of all units: " + bits, x.walk(bits), none - Integer.bitCount(bits));
        }
        Check.due("bits behind the last choice", x.walk(-64L), none);
    }

    private static void walkEnds() {
        CodeProof x = Programs.program(new int[] {12, 9, 499999}, new int[] {13, 9, 3}, new int[] {14, 1});
        Check.due("a million steps: prove", x.prove(), 0);
        Check.due("a million steps", x.walk(0), 1000000);
        x.change(0, 0, 12, 9, 499998, 0);
        x.prove();
        Check.due("two less", x.walk(0), 999998);
        x.add(18, 0, 0, 0);
        x.prove();
        Check.due("one less", x.walk(0), 999999);
        x.change(0, 0, 12, 9, 500000, 0);
        Check.due("more: prove", x.prove(), 0);
        Check.due("more: steps", x.steps(0), 1000003);
        Check.due("more", x.walk(0), 1000000);
        x.change(0, 0, 12, 9, 1, 0);
        x.prove();
        Check.due("a short way behind one that was cut", x.walk(0), 5);
    }

    private static void walkLeavesTheProof() {
        CodeProof x = Programs.program(new int[] {12, 9, 3}, new int[] {13, 9, 5}, PUSH, new int[] {11, 5}, new int[] {14, 1});
        x.prove();
        for (int k = 0; k < 3; k++) {
            Check.due("left at once", x.walk(1), 4);
            Check.due("left in the second round", x.walk(2), 8);
            Check.due("not left", x.walk(8), 14);
            Check.due("steps between walks", x.steps(0), 14);
            Check.due("depth between walks", x.depth(0), 1);
            Check.due("the fault between walks", x.count(0), 0);
            Check.due("proved again", x.prove(), 0);
        }
    }
}
