/** Promise 2, begin: "No units; T cells: T. BAD: T is not 1 .. 4,096." */
public final class BeginTest {
    private static final int[] RIGHT = {1, 2, 3, 63, 64, 65, 4094, 4095, 4096};
    private static final int[] WRONG = {0, -1, -2, -64, 4097, 4098, 65536 + 64, Check.LEAST, Check.LEAST + 64, Check.MOST};

    public static void main(String[] args) {
        answersT();
        thereAreTCells();
        thereAreNoUnits();
        whatWasFoundIsForgotten();
        allUnitsAndInstructionsMayComeAgain();
        instructionsThatAreGoneAreNotSeen();
        refusesOtherT();
        whatIsRefusedLeavesT();
        Check.end();
    }

    private static void answersT() {
        for (int from = 1; from <= 4096; from += 256) {
            CodeProof x = new CodeProof();
            for (int t = from; t < from + 256; t++) {
                Check.due("begin(" + t + ")", x.begin(t), t);
            }
        }
    }

    private static void thereAreTCells() {
        for (int t : RIGHT) {
            dueCells("begin(" + t + ")", Programs.code(t), t);
        }
        CodeProof x = Programs.code(4096);
        x.begin(1);
        dueCells("begin(1) behind begin(4096)", x, 1);
    }

    /** A unit of one cell in the last one, behind it, and a program of all, and of one more, or the most. */
    private static void dueCells(String what, CodeProof x, int t) {
        x.begin(t);
        Programs.addUnit(x, t + " 0");
        Check.due(what + ": all cells", x.prove(), 0);
        if (t < 4096) {
            x.begin(t);
            Programs.addUnit(x, (t + 1) + " 0");
            Check.due(what + ": one cell more", x.prove(), 1);
        }
        x.begin(t);
        Programs.addUnit(x, "1 " + (t - 1));
        Programs.addUnit(x, "0 0");
        Check.due(what + ": the last cell", x.prove(), 0);
        if (t < 4096) {
            x.begin(t);
            Programs.addUnit(x, "1 " + t);
            Programs.addUnit(x, "0 0");
            Check.due(what + ": the cell behind it", x.prove(), 1);
        }
    }

    private static void thereAreNoUnits() {
        CodeProof x = Programs.code(64, "3 20: 17 5 0, 18", "10 0: 18");
        x.begin(30);
        Check.due("count(3)", x.count(3), 0);
        Check.due("count(4)", x.count(4), 0);
        Check.due("add", x.add(18, 0, 0, 0), CodeProof.BAD);
        Check.due("change", x.change(0, 0, 18, 0, 0, 0), CodeProof.BAD);
        Check.due("prove()", x.prove(), 0);
        Check.due("steps(0)", x.steps(0), CodeProof.BAD);
        Check.due("depth(0)", x.depth(0), CodeProof.BAD);
        Check.due("walk(0)", x.walk(0), CodeProof.BAD);
        Check.due("the first unit", x.unit(5, 0), 0);
        Check.due("it has no instruction", x.change(0, 0, 18, 0, 0, 0), CodeProof.BAD);
        Check.due("prove() with it", x.prove(), 0);
        Check.due("its steps", x.steps(0), 0);
        Check.due("its first instruction", x.add(18, 0, 0, 0), 0);
    }

    private static void whatWasFoundIsForgotten() {
        CodeProof x = Programs.program("18");
        x.prove();
        x.begin(64);
        Check.same("behind accepted code", Refusal.told(x), Refusal.told(new CodeProof()));
        x = Programs.program("18, 99");
        Check.fault("refused code", x, 2, 0, 1);
        x.begin(64);
        Check.same("behind refused code", Refusal.told(x), Refusal.told(new CodeProof()));
    }

    private static void allUnitsAndInstructionsMayComeAgain() {
        CodeProof x = new CodeProof();
        for (int unit = 0; unit < 16; unit++) {
            x.unit(0, 0);
        }
        for (int i = 0; i < 100; i++) {
            x.add(18, 0, 0, 0);
        }
        x.begin(64);
        for (int unit = 0; unit < 16; unit++) {
            Check.due("unit " + unit + " again", x.unit(0, 0), unit);
        }
        Check.due("a 17th unit again", x.unit(0, 0), CodeProof.BAD);
        for (int i = 0; i < 256; i++) {
            Check.due("instruction " + i + " again", x.add(18, 0, 0, 0), i);
        }
        Check.due("a 257th instruction again", x.add(18, 0, 0, 0), CodeProof.BAD);
    }

    private static void instructionsThatAreGoneAreNotSeen() {
        CodeProof x = Programs.code(64, "10 0: 17 5 0, 13 9 3, 14 1");
        x.begin(64);
        Programs.addUnit(x, "10 0: 12 9 2");
        Check.fault("COUNT with a NEXT behind it that is gone", x, 7, 0, 0);
        x.begin(64);
        Programs.addUnit(x, "10 0: 17 5 0, 12 4 2, 13 4 4, 14 2");
        x.begin(64);
        Programs.addUnit(x, "10 0: 17 0 0");
        Check.accepted("BLOCK over a counter that is gone", x);
    }

    private static void refusesOtherT() {
        for (int t : WRONG) {
            Refusal.dueInAllStates("begin(" + t + ")", x -> x.begin(t));
        }
    }

    private static void whatIsRefusedLeavesT() {
        for (int t : WRONG) {
            CodeProof x = Programs.code(7);
            Check.due("begin(" + t + ")", x.begin(t), CodeProof.BAD);
            Programs.addUnit(x, "7 0");
            Check.due("begin(" + t + "): 7 cells still", x.prove(), 0);
            x = Programs.code(7);
            x.begin(t);
            Programs.addUnit(x, "8 0");
            Check.due("begin(" + t + "): 8 are still too many", x.prove(), 1);
        }
    }
}
