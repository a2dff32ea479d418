/**
 * Promise 7, count: "0 the fault that was found last (0: none, or not proved since code came or changed), 1 its unit, 2 its
 * instruction (-1 for both without), 3 how many units there are, 4 how many instructions. BAD: another number."
 */
public final class CountTest {
    public static void main(String[] args) {
        withoutAFault();
        theFaultThatWasFound();
        theFaultThatWasFoundLast();
        notProvedSinceCodeCameOrChanged();
        unitsAndInstructions();
        anotherNumber();
        Check.end();
    }

    private static void due(String what, CodeProof x, int... counts) {
        for (int which = 0; which < counts.length; which++) {
            Check.due(what + ": count(" + which + ")", x.count(which), counts[which]);
        }
    }

    private static void withoutAFault() {
        due("a new object", new CodeProof(), 0, -1, -1, 0, 0);
        due("no unit, proved", Refusal.proved(new CodeProof()), 0, -1, -1, 0, 0);
        CodeProof x = Programs.program("18, 18");
        due("not proved", x, 0, -1, -1, 1, 2);
        x.prove();
        due("accepted", x, 0, -1, -1, 1, 2);
    }

    private static void theFaultThatWasFound() {
        String big = "12 9 1000000, 13 9 6, 12 8 1000000, 13 8 5, 14 3, 14 1";
        String[] wrong = {"", "19", "16 1", "1 10", "1 9, 12 9 0", "10 0", "12 9 0", "2 0", Programs.times(65, "0"), "0", big};
        for (int fault = 1; fault <= 11; fault++) {
            int at = fault == 1 || fault == 11 ? -1 : fault == 9 ? 64 : 0;
            String place = fault == 1 ? "10 1: " : "10 0: ";
            CodeProof x = Programs.code(64, "3 30: 18", place + wrong[fault - 1]);
            int instructions = x.count(4);
            Check.due("fault " + fault, x.prove(), fault);
            due("fault " + fault, x, fault, 1, at, 2, instructions);
        }
        CodeProof x = Programs.code(64, "3 30: 18, 18, 18, 99", "10 0");
        x.prove();
        due("in the first unit", x, 2, 0, 3, 2, 4);
    }

    private static void theFaultThatWasFoundLast() {
        CodeProof x = Programs.program("18, 99, 18");
        x.prove();
        x.change(0, 1, 18, 0, 0, 0);
        x.change(0, 2, 1, 10, 0, 0);
        x.prove();
        due("another fault", x, 4, 0, 2, 1, 3);
        x.prove();
        due("the same fault again", x, 4, 0, 2, 1, 3);
        x.change(0, 2, 18, 0, 0, 0);
        x.prove();
        due("none any more", x, 0, -1, -1, 1, 3);
        x.change(0, 0, 2, 0, 0, 0);
        x.prove();
        due("one again", x, 8, 0, 0, 1, 3);
    }

    private static void notProvedSinceCodeCameOrChanged() {
        for (int how = 0; how < Programs.DISTURBANCES; how++) {
            CodeProof x = Programs.program("10 1, 99");
            x.prove();
            due("found", x, 2, 0, 1, 1, 2);
            Programs.disturb(x, how);
            due("disturbance " + how, x, 0, -1, -1);
            x = Programs.program("10 1, 18");
            x.prove();
            Programs.disturb(x, how);
            due("disturbance " + how + " of accepted code", x, 0, -1, -1);
        }
    }

    private static void unitsAndInstructions() {
        CodeProof x = new CodeProof();
        int instructions = 0;
        for (int unit = 0; unit < 16; unit++) {
            x.unit(0, 0);
            due("unit " + unit, x, 0, -1, -1, unit + 1, instructions);
            for (int i = 0; i <= unit % 3; i++) {
                x.add(99, 0, 0, 0);
                instructions++;
                due("unit " + unit, x, 0, -1, -1, unit + 1, instructions);
            }
        }
        x.unit(0, 0);
        x.unit(-1, 0);
        due("units that are refused do not count", x, 0, -1, -1, 16, instructions);
        x.prove();
        due("when proved", x, 2, 0, 0, 16, instructions);
        x.change(0, 0, 18, 0, 0, 0);
        due("when changed", x, 0, -1, -1, 16, instructions);
        x.begin(64);
        due("when begun", x, 0, -1, -1, 0, 0);
        due("full code", Refusal.full(), 0, -1, -1, 16, 256);
    }

    private static void anotherNumber() {
        for (int which : new int[] {-1, -2, 5, 6, Check.LEAST, Check.MOST}) {
            Refusal.dueInAllStates("count(" + which + ")", x -> x.count(which));
        }
    }
}
