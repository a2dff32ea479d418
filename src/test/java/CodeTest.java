/** Promises 1 to 5 and 7: a new object, begin, unit, add, change, and what count tells of code. */
public final class CodeTest {
    private static final int LEAST = Integer.MIN_VALUE;
    private static final int MOST = Integer.MAX_VALUE;

    public static void main(String[] args) {
        newObject();
        beginRefuses();
        beginClears();
        unitLimits();
        addLimits();
        changeLimits();
        countRefuses();
        codeThatComesEndsTheProof();
        whatIsRefusedChangesNothing();
        Check.end();
    }

    private static void newObject() {
        CodeProof x = new CodeProof();
        Check.due("new: count(0)", x.count(0), 0);
        Check.due("new: count(1)", x.count(1), -1);
        Check.due("new: count(2)", x.count(2), -1);
        Check.due("new: count(3)", x.count(3), 0);
        Check.due("new: count(4)", x.count(4), 0);
        Check.due("new: steps(0)", x.steps(0), CodeProof.BAD);
        Check.due("new: depth(0)", x.depth(0), CodeProof.BAD);
        Check.due("new: walk(0)", x.walk(0), CodeProof.BAD);
        Check.due("new: add", x.add(0, 0, 0, 0), CodeProof.BAD);
        Check.due("new: change", x.change(0, 0, 0, 0, 0, 0), CodeProof.BAD);
        Check.due("new: unit(64, 0)", x.unit(64, 0), 0);
        Check.due("new: 64 cells are there", x.prove(), 0);
        x = new CodeProof();
        x.unit(65, 0);
        Check.due("new: 65 cells are not there", x.prove(), 1);
    }

    private static void beginRefuses() {
        CodeProof x = new CodeProof();
        int[] wrong = {0, -1, 4097, LEAST, MOST};
        for (int t : wrong) {
            Check.due("begin(" + t + ")", x.begin(t), CodeProof.BAD);
        }
        int[] right = {1, 2, 4095, 4096};
        for (int t : right) {
            Check.due("begin(" + t + ")", x.begin(t), t);
            x.unit(t, 0);
            Check.due("begin(" + t + "): so many cells are there", x.prove(), 0);
        }
        x.begin(7);
        x.unit(8, 0);
        Check.due("begin(7): 8 cells are not there", x.prove(), 1);
    }

    private static void beginClears() {
        CodeProof x = new CodeProof();
        x.unit(4, 0);
        x.add(0, 1, 0, 0);
        Check.due("before begin: prove", x.prove(), 10);
        x.begin(3);
        Check.due("behind begin: count(0)", x.count(0), 0);
        Check.due("behind begin: count(1)", x.count(1), -1);
        Check.due("behind begin: count(2)", x.count(2), -1);
        Check.due("behind begin: count(3)", x.count(3), 0);
        Check.due("behind begin: count(4)", x.count(4), 0);
        Check.due("behind begin: add", x.add(0, 1, 0, 0), CodeProof.BAD);
        Check.due("behind begin: change", x.change(0, 0, 0, 1, 0, 0), CodeProof.BAD);
        Check.due("behind begin: prove", x.prove(), 0);
        Check.due("behind begin: walk", x.walk(0), CodeProof.BAD);
        Check.due("behind begin: steps", x.steps(0), CodeProof.BAD);
        Check.due("behind begin: unit", x.unit(3, 0), 0);
        Check.due("behind begin: the unit is empty", x.add(18, 0, 0, 0), 0);
        Check.due("behind begin: prove", x.prove(), 0);
        Check.due("behind begin: steps(0)", x.steps(0), 1);
    }

    private static void unitLimits() {
        CodeProof x = new CodeProof();
        int[][] wrong = {{-1, 0}, {4097, 0}, {0, -2}, {0, 4096}, {LEAST, 0}, {MOST, 0}, {0, LEAST}, {0, MOST}};
        for (int[] w : wrong) {
            Check.due("unit(" + w[0] + ", " + w[1] + ")", x.unit(w[0], w[1]), CodeProof.BAD);
        }
        Check.due("wrong units are none", x.count(3), 0);
        int[][] right = {{0, -1}, {4096, -1}, {0, 4095}, {4096, 4095}, {0, 0}};
        for (int u = 0; u < 16; u++) {
            int[] r = right[u % right.length];
            Check.due("unit " + u, x.unit(r[0], r[1]), u);
            Check.due("count(3)", x.count(3), u + 1);
        }
        Check.due("a 17th unit", x.unit(0, 0), CodeProof.BAD);
        Check.due("count(3) at the end", x.count(3), 16);
    }

    private static void addLimits() {
        CodeProof x = new CodeProof();
        x.unit(2, -1);
        for (int i = 0; i < 200; i++) {
            Check.due("add to unit 0", x.add(MOST, LEAST, i, -i), i);
        }
        x.unit(2, 0);
        for (int i = 0; i < 56; i++) {
            Check.due("add to unit 1", x.add(17, 5, 0, 0), i);
            Check.due("count(4)", x.count(4), 201 + i);
        }
        Check.due("a 257th instruction", x.add(17, 5, 0, 0), CodeProof.BAD);
        Check.due("count(4) at the end", x.count(4), 256);
        Check.due("a unit behind them", x.unit(0, 0), 2);
        Check.due("a 257th instruction in it", x.add(17, 5, 0, 0), CodeProof.BAD);
        x.begin(4);
        x.unit(4, 0);
        for (int i = 0; i < 256; i++) {
            Check.due("add to one unit", x.add(17, 5, 1, 0), i);
        }
        Check.due("a 257th in one unit", x.add(17, 5, 1, 0), CodeProof.BAD);
        Check.due("256 in one unit: prove", x.prove(), 0);
        Check.due("256 in one unit: steps", x.steps(0), 256);
        Check.due("256 in one unit: walk", x.walk(0), 256);
    }

    private static void changeLimits() {
        CodeProof x = new CodeProof();
        x.unit(8, -1);
        x.add(17, 5, 0, 0);
        x.add(17, 5, 0, 0);
        x.unit(8, 0);
        x.add(17, 5, 0, 0);
        int[][] none = {{-1, 0}, {2, 0}, {0, -1}, {0, 2}, {1, 1}, {1, -1}, {15, 0}, {16, 0},
            {LEAST, 0}, {MOST, 0}, {0, LEAST}, {0, MOST}, {1, MOST}};
        for (int[] n : none) {
            Check.due("change(" + n[0] + ", " + n[1] + ", ..)", x.change(n[0], n[1], 99, 0, 0, 0), CodeProof.BAD);
        }
        Check.due("nothing was changed", x.prove(), 0);
        Check.due("change of the last of unit 0", x.change(0, 1, 99, 0, 0, 0), 0);
        Check.due("prove", x.prove(), 2);
        Check.due("its unit", x.count(1), 0);
        Check.due("its instruction", x.count(2), 1);
        Check.due("change back", x.change(0, 1, 18, LEAST, MOST, -1), 0);
        Check.due("change of unit 1", x.change(1, 0, 0, 0, 0, 0), 0);
        Check.due("prove", x.prove(), 10);
        Check.due("its unit", x.count(1), 1);
        Check.due("its instruction", x.count(2), 0);
        Check.due("how many there are stays", x.count(4), 3);
    }

    private static void countRefuses() {
        CodeProof x = new CodeProof();
        x.unit(1, 0);
        x.add(18, 0, 0, 0);
        int[] wrong = {-1, 5, 6, LEAST, MOST};
        for (int which : wrong) {
            Check.due("count(" + which + ")", x.count(which), CodeProof.BAD);
        }
        Check.due("count(3)", x.count(3), 1);
        Check.due("count(4)", x.count(4), 1);
    }

    private static void codeThatComesEndsTheProof() {
        for (int how = 0; how < 4; how++) {
            CodeProof x = new CodeProof();
            x.unit(4, 0);
            x.add(18, 0, 0, 0);
            Check.due("prove", x.prove(), 0);
            Check.due("steps when proved", x.steps(0), 1);
            disturb(x, how);
            Check.due("steps behind disturbance " + how, x.steps(0), CodeProof.BAD);
            Check.due("depth behind disturbance " + how, x.depth(0), CodeProof.BAD);
            Check.due("walk behind disturbance " + how, x.walk(0), CodeProof.BAD);

            x = new CodeProof();
            x.unit(4, 0);
            x.add(99, 0, 0, 0);
            Check.due("prove", x.prove(), 2);
            Check.due("the fault", x.count(0), 2);
            disturb(x, how);
            Check.due("count(0) behind disturbance " + how, x.count(0), 0);
            Check.due("count(1) behind disturbance " + how, x.count(1), -1);
            Check.due("count(2) behind disturbance " + how, x.count(2), -1);
        }
    }

    private static void disturb(CodeProof x, int how) {
        if (how == 0) {
            x.unit(0, 0);
        } else if (how == 1) {
            x.add(18, 0, 0, 0);
        } else if (how == 2) {
            x.change(0, 0, 18, 0, 0, 0);
        } else {
            x.begin(64);
        }
    }

    private static void whatIsRefusedChangesNothing() {
        CodeProof x = new CodeProof();
        x.unit(4, 0);
        x.add(18, 0, 0, 0);
        x.prove();
        x.begin(0);
        x.unit(-1, 0);
        x.change(0, 1, 0, 0, 0, 0);
        x.change(1, 0, 0, 0, 0, 0);
        Check.due("steps behind what was refused", x.steps(0), 1);
        Check.due("depth behind what was refused", x.depth(0), 0);
        Check.due("walk behind what was refused", x.walk(0), 1);
        Check.due("count(3) behind what was refused", x.count(3), 1);
        Check.due("count(4) behind what was refused", x.count(4), 1);
        x.begin(64);
        for (int u = 0; u < 16; u++) {
            x.unit(0, 0);
        }
        for (int i = 0; i < 256; i++) {
            x.add(18, 0, 0, 0);
        }
        x.prove();
        Check.due("a 17th unit", x.unit(0, 0), CodeProof.BAD);
        Check.due("a 257th instruction", x.add(18, 0, 0, 0), CodeProof.BAD);
        Check.due("steps behind a 17th unit and a 257th instruction", x.steps(15), 1);
    }
}
