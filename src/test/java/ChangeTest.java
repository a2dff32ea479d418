/** Promise 5, change: "An instruction of a unit becomes another one: 0. BAD: there is none." */
public final class ChangeTest {
    public static void main(String[] args) {
        becomesAnotherOne();
        noneButThisOneChanges();
        whatItBecomesMayBeAnything();
        noUnitOfThatNumber();
        noInstructionOfThatNumber();
        unitsWithoutInstructions();
        endsTheProof();
        Check.end();
    }

    private static CodeProof twoUnits() {
        return Programs.code(64, "9 20: 17 5 0, 17 5 3, 17 5 6", "9 0: 17 5 0, 17 5 3");
    }

    private static void becomesAnotherOne() {
        int[][] all = {{0, 0}, {0, 1}, {0, 2}, {1, 0}, {1, 1}};
        for (int[] one : all) {
            CodeProof x = twoUnits();
            String name = "instruction " + one[1] + " of unit " + one[0];
            Check.due(name, x.change(one[0], one[1], 17, 5, 7, 0), 0);
            Check.fault(name + ": b becomes another", x, 4, one[0], one[1]);
            Check.due(name, x.change(one[0], one[1], 17, 9, 6, 0), 0);
            Check.fault(name + ": a becomes another", x, 2, one[0], one[1]);
            Check.due(name, x.change(one[0], one[1], 3, 0, 0, 10), 0);
            Check.fault(name + ": number and c become others", x, 4, one[0], one[1]);
            Check.due(name, x.change(one[0], one[1], 17, 5, 6, 0), 0);
            Check.accepted(name + ": right again", x);
            Check.due(name + ": as many units", x.count(3), 2);
            Check.due(name + ": as many instructions", x.count(4), 5);
        }
    }

    private static void noneButThisOneChanges() {
        CodeProof x = Programs.code(64, "9 20: 17 5 0, 17 5 3, 17 5 6", "9 0: 17 5 0, 0 1, 2 0");
        x.change(0, 2, 18, 0, 0, 0);
        Check.accepted("the last one of unit 0", x);
        x.change(1, 0, 18, 0, 0, 0);
        Check.accepted("the first one of unit 1", x);
        Check.due("steps(0)", x.steps(0), 3);
        Check.due("steps(1)", x.steps(1), 1);
        x.change(0, 0, 18, 0, 0, 0);
        Check.accepted("the first one of unit 0", x);
        Check.due("steps(0) by its first one", x.steps(0), 1);
        x.change(1, 0, 17, 5, 0, 0);
        Check.accepted("back again", x);
        Check.due("the others of unit 1 are there", x.steps(1), 3);
        Check.due("an instruction comes behind them", x.add(18, 0, 0, 0), 3);
    }

    private static void whatItBecomesMayBeAnything() {
        int[] any = {Check.LEAST, -1, 0, 18, 19, Check.MOST};
        CodeProof x = twoUnits();
        for (int number : any) {
            Check.due("number " + number, x.change(1, 1, number, Check.LEAST, Check.MOST, -1), 0);
            boolean right = number == 0 || number == 18;
            Check.due("number " + number + ": prove()", x.prove(), right ? number == 0 ? 10 : 0 : 2);
        }
    }

    private static void noUnitOfThatNumber() {
        for (int unit : new int[] {-1, -2, 16, 17, Check.LEAST, Check.MOST}) {
            for (int i : new int[] {-1, 0, 255, 256}) {
                Refusal.dueInAllStates("change(" + unit + ", " + i + ", ..)", x -> x.change(unit, i, 99, 0, 0, 0));
            }
        }
        for (int unit = 2; unit < 16; unit++) {
            int none = unit;
            Refusal.due("change of unit " + unit + " of 2", ChangeTest::twoUnits, x -> x.change(none, 0, 99, 0, 0, 0));
        }
        Refusal.due("change without a unit", CodeProof::new, x -> x.change(0, 0, 18, 0, 0, 0));
        Refusal.due("change of a unit that is gone", () -> gone(), x -> x.change(0, 0, 18, 0, 0, 0));
    }

    private static CodeProof gone() {
        CodeProof x = twoUnits();
        x.begin(Refusal.CELLS);
        return x;
    }

    private static void noInstructionOfThatNumber() {
        int[] none = {-1, -2, 256, Check.LEAST, Check.MOST};
        for (int i : none) {
            Refusal.dueInAllStates("change(0, " + i + ", ..)", x -> x.change(0, i, 99, 0, 0, 0));
            Refusal.dueInAllStates("change(1, " + i + ", ..)", x -> x.change(1, i, 99, 0, 0, 0));
        }
        for (int i : new int[] {3, 4, 5, 255}) {
            Refusal.due("change(0, " + i + ", ..) of 3", ChangeTest::accepted, x -> x.change(0, i, 99, 0, 0, 0));
        }
        for (int i : new int[] {2, 3, 255}) {
            Refusal.due("change(1, " + i + ", ..) of 2", ChangeTest::accepted, x -> x.change(1, i, 99, 0, 0, 0));
        }
        Refusal.due("change(15, 16, ..) of 16", Refusal::full, x -> x.change(15, 16, 99, 0, 0, 0));
        Check.due("change(15, 15, ..) of 16", Refusal.full().change(15, 15, 99, 0, 0, 0), 0);
        // The unit before has one of that number in the same row of instructions.
        Refusal.due("change(1, -1, ..)", ChangeTest::accepted, x -> x.change(1, -1, 99, 0, 0, 0));
    }

    private static CodeProof accepted() {
        return Refusal.proved(twoUnits());
    }

    private static void unitsWithoutInstructions() {
        Refusal.due("a unit without instructions", () -> Programs.code(Refusal.CELLS, "3 10", "3 0: 18"),
                x -> x.change(0, 0, 99, 0, 0, 0));
        Refusal.due("the last unit without instructions", () -> Programs.code(Refusal.CELLS, "3 10: 18", "3 0"),
                x -> x.change(1, 0, 99, 0, 0, 0));
    }

    private static void endsTheProof() {
        CodeProof x = Programs.program("18, 17 5 0");
        x.prove();
        x.change(0, 1, 17, 5, 0, 0);
        Check.due("steps behind it", x.steps(0), CodeProof.BAD);
        Check.due("depth behind it", x.depth(0), CodeProof.BAD);
        Check.due("walk behind it", x.walk(0), CodeProof.BAD);
        x = Programs.program("99");
        x.prove();
        x.change(0, 0, 98, 0, 0, 0);
        Check.due("the fault behind it", x.count(0), 0);
        Check.due("its unit behind it", x.count(1), -1);
        Check.due("its instruction behind it", x.count(2), -1);
    }
}
