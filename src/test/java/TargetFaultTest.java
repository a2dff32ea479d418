/**
 * Promise 6, fault 6: "where it goes: of 10, 11 a, of 13 b, is not behind this instruction, or is more than how many the unit
 * has; of 14 a is not before it".
 */
public final class TargetFaultTest {
    private static final int SIZE = 6;

    public static void main(String[] args) {
        go();
        unless();
        next();
        back();
        theUnitsOwnInstructions();
        otherInstructionsGoNowhere();
        Check.end();
    }

    private static int[] placesRound(int at) {
        return new int[] {Check.LEAST, -2, -1, 0, at - 1, at, at + 1, at + 2, SIZE - 1, SIZE, SIZE + 1, SIZE + 2, 255, 256, 257,
            Check.MOST - 1, Check.MOST};
    }

    /** Six instructions, all but one of them blocks. */
    private static CodeProof amidBlocks(int at, String it) {
        return Programs.program(Programs.times(at, "17 5 0") + it + ", " + Programs.times(SIZE - 1 - at, "17 5 0"));
    }

    private static void due(String what, CodeProof x, boolean right, int at, int faultIfRight) {
        int fault = right ? faultIfRight : 6;
        Check.fault(what, x, fault, fault == 0 ? -1 : 0, fault == 0 ? -1 : at);
    }

    private static void go() {
        for (int at = 0; at < SIZE; at++) {
            for (int a : placesRound(at)) {
                due("GO from " + at + " to " + a, amidBlocks(at, "10 " + a), a > at && a <= SIZE, at, 0);
            }
        }
    }

    private static void unless() {
        for (int at = 0; at < SIZE; at++) {
            for (int a : placesRound(at)) {
                // The stack, which is looked at later, is empty.
                due("UNLESS from " + at + " to " + a, amidBlocks(at, "11 " + a), a > at && a <= SIZE, at, 8);
            }
        }
        Check.accepted("UNLESS to the next one", Programs.program("0, 11 2, 17 5 0"));
        Check.accepted("UNLESS to the end", Programs.program("0, 11 3, 17 5 0"));
        Check.fault("UNLESS behind the end", Programs.program("0, 11 4, 17 5 0"), 6, 0, 1);
        Check.fault("UNLESS to itself", Programs.program("0, 11 1, 17 5 0"), 6, 0, 1);
    }

    private static void next() {
        for (int at = 0; at < SIZE; at++) {
            for (int b : placesRound(at)) {
                // Loops are looked at later, and the 12 before it is missing.
                due("NEXT from " + at + " to " + b, amidBlocks(at, "13 9 " + b), b > at && b <= SIZE, at, 7);
            }
        }
        Check.accepted("NEXT to the end", Programs.program("12 9 2, 13 9 3, 14 1"));
        Check.fault("NEXT behind the end", Programs.program("12 9 2, 13 9 4, 14 1"), 6, 0, 1);
    }

    private static void back() {
        for (int at = 0; at < SIZE; at++) {
            for (int a : placesRound(at)) {
                // Where it may go, it is no 13.
                due("BACK from " + at + " to " + a, amidBlocks(at, "14 " + a), a >= 0 && a < at, at, 7);
            }
        }
        Check.fault("BACK to itself", Programs.program("12 9 2, 13 9 3, 14 2"), 6, 0, 2);
        Check.fault("BACK to the next one", Programs.program("12 9 2, 13 9 3, 14 3, 18"), 6, 0, 2);
        Check.accepted("BACK to the one before", Programs.program("12 9 2, 13 9 3, 14 1"));
    }

    /** How many the unit has, not how many there are. */
    private static void theUnitsOwnInstructions() {
        CodeProof x = Programs.code(64, "3 20: 17 5 0, 17 5 0", "3 30: 10 2", "3 0: 17 5 0, 17 5 0");
        Check.fault("GO to where only other units have instructions", x, 6, 1, 0);
        x.change(1, 0, 10, 1, 0, 0);
        Check.accepted("GO to the unit's end", x);
        x = Programs.program("10 2");
        Check.fault("GO behind the end", x, 6, 0, 0);
        x.add(18, 0, 0, 0);
        Check.accepted("which is the end now", x);
        x = Programs.code(64, "3 0: 10 256, " + Programs.times(255, "17 5 0"));
        Check.accepted("GO to the end of 256", x);
        x.change(0, 0, 10, 257, 0, 0);
        Check.fault("GO behind the end of 256", x, 6, 0, 0);
        x.change(0, 0, 17, 5, 0, 0);
        x.change(0, 255, 10, 256, 0, 0);
        Check.accepted("GO from the last of 256 to the end", x);
        x.change(0, 255, 10, 255, 0, 0);
        Check.fault("GO from the last of 256 to itself", x, 6, 0, 255);
    }

    private static void otherInstructionsGoNowhere() {
        Check.accepted("operands like places that are wrong",
                Programs.program("0 0 99, 2 5 99 99, 17 5 1 99, 12 0 0 99, 13 0 6 99, 14 4 99 99"));
    }
}
