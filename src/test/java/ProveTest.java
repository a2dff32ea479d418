/**
 * Promise 6, prove: "The code is proved: 0, or its first fault; what is told of units, places and steps is by this until the
 * next call of it. (Without a unit: 0.)" Here: which fault is the first. What each fault is has a test of its own.
 */
public final class ProveTest {
    private static final String BIG = "12 9 1000000, 13 9 %, 12 8 1000000, 13 8 %, 14 %, 14 %";
    /** Instructions with one fault, 2 to 10, at the first of them. */
    private static final String[] WRONG = {"", "", "19", "16 9", "1 10", "1 9, 12 9 0", "10 0", "12 9 0", "2 0"};

    public static void main(String[] args) {
        withoutAUnit();
        withoutInstructions();
        answersTheSameAgain();
        unitsOneAfterTheOther();
        placeBeforeInstructions();
        formsOfAllBeforeLoopsOfAny();
        loopsOfAllBeforeTheStackOfAny();
        stackBeforeSteps();
        theFirstInstructionThatIsWrong();
        oneInstructionWithTwoFaults();
        whatIsToldIsByTheLastProof();
        Check.end();
    }

    private static void withoutAUnit() {
        CodeProof x = new CodeProof();
        Check.accepted("a new object", x);
        x.begin(5);
        Check.accepted("behind begin", x);
        x = Programs.program("99");
        x.prove();
        x.begin(5);
        Check.accepted("behind begin, refused code before", x);
        Check.due("walk without a unit", x.walk(0), CodeProof.BAD);
        Check.due("steps(0) without a unit", x.steps(0), CodeProof.BAD);
        Check.due("depth(0) without a unit", x.depth(0), CodeProof.BAD);
    }

    private static void withoutInstructions() {
        Check.accepted("a program without instructions", Programs.code(64, "0 0"));
        Check.accepted("units without instructions", Programs.code(64, "0 5", "3 -1", "5 0"));
        Check.fault("no instruction, but a wrong place", Programs.code(64, "0 5"), 1, 0, -1);
    }

    private static void answersTheSameAgain() {
        CodeProof x = Programs.program("0, 11 3, 19");
        for (int k = 0; k < 3; k++) {
            Check.fault("refused, time " + k, x, 2, 0, 2);
        }
        x.change(0, 2, 17, 5, 0, 0);
        for (int k = 0; k < 3; k++) {
            Check.accepted("accepted, time " + k, x);
            Check.due("its steps, time " + k, x.steps(0), 3);
            Check.due("its depth, time " + k, x.depth(0), 1);
        }
    }

    private static String wrong(int fault) {
        if (fault == 9) {
            return Programs.times(65, "0");
        }
        return fault == 10 ? "0" : fault == 11 ? big(0) : WRONG[fault];
    }

    /** Two loops of a million, in one another, from instruction first on. */
    private static String big(int first) {
        String text = BIG;
        for (int to : new int[] {first + 6, first + 5, first + 3, first + 1}) {
            text = text.replaceFirst("%", "" + to);
        }
        return text;
    }

    private static int at(int fault) {
        return fault == 1 || fault == 11 ? -1 : fault == 9 ? 64 : 0;
    }

    private static void unitsOneAfterTheOther() {
        for (int first = 1; first <= 11; first++) {
            for (int second = 1; second <= 11; second++) {
                CodeProof x = Programs.code(64, (first == 1 ? "10 60: " : "10 20: ") + wrong(Math.max(first, 2)),
                        (second == 1 ? "10 1: " : "10 0: ") + wrong(Math.max(second, 2)));
                Check.fault("fault " + first + " in unit 0, " + second + " in unit 1", x, first, 0, at(first));
            }
            CodeProof x = Programs.code(64, "10 20: 18", (first == 1 ? "10 1: " : "10 0: ") + wrong(Math.max(first, 2)));
            Check.fault("fault " + first + " in unit 1", x, first, 1, at(first));
        }
    }

    private static void placeBeforeInstructions() {
        for (int fault = 2; fault <= 11; fault++) {
            Check.fault("a place and fault " + fault, Programs.code(64, "10 1: " + wrong(fault)), 1, 0, -1);
        }
    }

    private static void formsOfAllBeforeLoopsOfAny() {
        for (int fault = 2; fault <= 6; fault++) {
            String last = fault == 6 ? "10 0" : fault == 5 ? "1 8, 12 8 0" : wrong(fault);
            Check.fault("a loop that is wrong, then fault " + fault, Programs.program("12 9 0, " + last), fault, 0, 1);
            Check.fault("an empty stack, then fault " + fault, Programs.program("2 0, " + last), fault, 0, 1);
            Check.fault("something left, then fault " + fault, Programs.program("0, 18, " + last), fault, 0, 2);
            Check.fault("too many steps, then fault " + fault, Programs.program(big(0) + ", "
                    + (fault == 5 ? "1 9" : last)), fault, 0, 6);
        }
    }

    private static void loopsOfAllBeforeTheStackOfAny() {
        Check.fault("an empty stack, then a wrong loop", Programs.program("2 0, 12 9 0"), 7, 0, 1);
        Check.fault("something left, then a wrong loop", Programs.program("0, 18, 12 9 0"), 7, 0, 2);
        Check.fault("too deep, then a wrong loop", Programs.program(Programs.times(65, "0") + "12 9 0"), 7, 0, 65);
        Check.fault("too many steps, then a wrong loop", Programs.program(big(0) + ", 12 9 0"), 7, 0, 6);
    }

    private static void stackBeforeSteps() {
        Check.fault("too many steps, then an empty stack", Programs.program(big(0) + ", 2 0"), 8, 0, 6);
        Check.fault("too many steps, then too deep", Programs.program(big(0) + ", " + Programs.times(65, "0")), 9, 0, 70);
        Check.fault("too many steps, then something left", Programs.program(big(0) + ", 0"), 10, 0, 6);
        Check.fault("too many steps alone", Programs.program(big(0)), 11, 0, -1);
    }

    /** Of faults that are looked for together, it is the instruction, not the fault's number, that comes first. */
    private static void theFirstInstructionThatIsWrong() {
        Check.fault("6 at 0, 2 at 1", Programs.program("10 0, 19"), 6, 0, 0);
        Check.fault("5 at 0, 2 at 1", Programs.program("1 9, 12 9 -1"), 5, 0, 0);
        Check.fault("4 at 0, 3 at 1", Programs.program("1 10, 16 9"), 4, 0, 0);
        Check.fault("3 at 0, 2 at 1", Programs.program("16 9, 19"), 3, 0, 0);
        Check.fault("2 at 0, 2 at 1", Programs.program("19, 19"), 2, 0, 0);
        Check.fault("2 at 1, 4 at 2", Programs.program("18, 19, 1 10"), 2, 0, 1);
        Check.fault("7 at 0, 7 at 1", Programs.program("12 9 0, 14 0"), 7, 0, 0);
        Check.fault("7 at 1, 7 at 2", Programs.program("12 9 0, 13 9 2, 12 9 0"), 7, 0, 1);
        Check.fault("10 at 1, 8 at 2", Programs.program("0, 18, 2 0"), 10, 0, 1);
        Check.fault("8 at 0, 8 at 1", Programs.program("2 0, 2 0"), 8, 0, 0);
        Check.fault("8 at 0, 10 at 1", Programs.program("8 0, 0"), 8, 0, 0);
        Check.fault("9 at 64, 8 behind it", Programs.program(Programs.times(65, "0") + "18, 2 0"), 9, 0, 64);
    }

    private static void oneInstructionWithTwoFaults() {
        Check.fault("2 before 4: TAKE", Programs.program("3 -1 0 0"), 2, 0, 0);
        Check.fault("2 before 4: COUNT", Programs.program("12 10 -1"), 2, 0, 0);
        Check.fault("2 before 4: BLOCK", Programs.program("17 9 10"), 2, 0, 0);
        Check.fault("2 before 5: BLOCK", Programs.program("17 9 7, 12 9 0"), 2, 0, 0);
        Check.fault("2 before 7: COUNT", Programs.program("12 9 1000001"), 2, 0, 0);
        Check.fault("2 before 8: TWO", Programs.program("7 25"), 2, 0, 0);
        Check.fault("3 before 4: READ", Programs.program("5 0 -1"), 3, 0, 0);
        Check.fault("3 before 4: ENTER", Programs.program("15 0 -1"), 3, 0, 0);
        Check.fault("3 before 4: ENTER of a placed unit", Programs.code(64, "9 50", "9 0: 15 0 1"), 3, 1, 0);
        Check.fault("3 before 5: READ", Programs.program("5 0 9, 12 9 0"), 3, 0, 0);
        Check.fault("3 before 5: ENTER of a placed unit", Programs.code(64, "9 50", "9 0: 15 0 0, 12 5 0"), 3, 1, 0);
        Check.fault("4 before 5: PUT", Programs.program("4 9 0 2, 12 9 0"), 4, 0, 0);
        Check.fault("4 before 5: ENTER", Programs.code(64, "2 -1", "9 0: 15 0 8, 12 8 0"), 4, 1, 0);
        Check.fault("4 before 6: NEXT", Programs.program("13 10 0"), 4, 0, 0);
        Check.fault("4 before 8: STORE", Programs.program("2 10"), 4, 0, 0);
        Check.fault("5 before 8: STORE", Programs.program("2 9, 12 9 0"), 5, 0, 0);
        Check.fault("6 before 7: NEXT", Programs.program("13 9 0"), 6, 0, 0);
        Check.fault("6 before 7: BACK", Programs.program("14 0"), 6, 0, 0);
        Check.fault("6 before 8: UNLESS", Programs.program("11 0"), 6, 0, 0);
        Check.fault("7 before 8: UNLESS", Programs.program("11 2, 12 9 0, 13 9 4, 14 2"), 7, 0, 0);
        Check.fault("8 before 10: TWO", Programs.program("0, 7 0"), 8, 0, 1);
        Check.fault("8 before 10: UNLESS", Programs.program("0, 11 4, 0, 9, 17 5 0"), 8, 0, 3);
        Check.fault("9 before 10: PUSH", Programs.program(Programs.times(65, "0")), 9, 0, 64);
    }

    private static void whatIsToldIsByTheLastProof() {
        CodeProof x = Programs.code(64, "3 40: 0, 2 0", "10 0: 16 0, 0, 0, 4 0 0 2");
        Check.accepted("first", x);
        dueOfBoth("first", x, 2, 1, 6, 2);
        dueOfBoth("asked again", x, 2, 1, 6, 2);
        x.walk(0);
        x.count(0);
        dueOfBoth("asked behind other questions", x, 2, 1, 6, 2);
        x.change(0, 0, 18, 0, 0, 0);
        dueOfBoth("changed", x, -1, -1, -1, -1);
        Check.accepted("then proved", x);
        dueOfBoth("then proved", x, 1, 0, 5, 2);
        x.change(1, 3, 19, 0, 0, 0);
        Check.fault("then refused", x, 2, 1, 3);
        dueOfBoth("then refused", x, -1, -1, -1, -1);
        x.change(1, 3, 7, 0, 0, 0);
        x.add(2, 0, 0, 0);
        Check.accepted("then accepted", x);
        dueOfBoth("then accepted", x, 1, 0, 6, 2);
    }

    private static void dueOfBoth(String what, CodeProof x, int steps0, int depth0, int steps1, int depth1) {
        Check.due(what + ": steps(0)", x.steps(0), steps0);
        Check.due(what + ": depth(0)", x.depth(0), depth0);
        Check.due(what + ": steps(1)", x.steps(1), steps1);
        Check.due(what + ": depth(1)", x.depth(1), depth1);
        Check.due(what + ": walk(0)", x.walk(0), steps1);
    }
}
