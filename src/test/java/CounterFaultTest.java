/**
 * Promise 6, fault 5: "one of these cells is a counter (of 5, 6: of unit a; otherwise of this unit); 12 and 13 are left
 * out". "The counters of a unit are the cells a of its instructions 12 and 13 (with b and a as they are, right or not)."
 */
public final class CounterFaultTest {
    /** A loop over counter 9 of a frame of 20, for the end of a unit whose other instructions are so many. */
    private static String loopBehind(int many) {
        return ", 12 9 2, 13 9 " + (many + 3) + ", 14 " + (many + 1);
    }

    public static void main(String[] args) {
        loadAndStore();
        takeAndPut();
        block();
        enter();
        readAndWrite();
        countAndNextAreLeftOut();
        countersByOneOfTheTwo();
        countersOfWrongInstructions();
        countersWhereverTheyStand();
        countersOfOtherUnits();
        severalCounters();
        Check.end();
    }

    private static void due(String what, boolean right, CodeProof x, int unit, int at) {
        Check.fault(what, x, right ? 0 : 5, right ? -1 : unit, right ? -1 : at);
    }

    private static CodeProof program(String instructions) {
        return Programs.code(64, "20 0: " + instructions);
    }

    private static void loadAndStore() {
        for (int cell = 0; cell < 20; cell++) {
            due("LOAD " + cell, cell != 9, program("1 " + cell + ", 11 2" + loopBehind(2)), 0, 0);
            due("STORE " + cell, cell != 9, program("0, 2 " + cell + loopBehind(2)), 0, 1);
        }
    }

    private static boolean isFree(int first, int many) {
        return 9 < first || 9 >= first + many;
    }

    private static void takeAndPut() {
        for (int first = 0; first < 20; first++) {
            for (int many = 1; first + many <= 20; many++) {
                String cells = first + " 0 " + many;
                boolean right = isFree(first, many);
                due("TAKE " + cells, right, program("0, 3 " + cells + ", 11 3" + loopBehind(3)), 0, 1);
                due("PUT " + cells, right, program("0, 0, 4 " + cells + loopBehind(3)), 0, 2);
            }
        }
    }

    private static void block() {
        for (int kind = 0; kind <= 8; kind++) {
            int cells = kind <= 4 ? 6 : 3;
            for (int b = 0; b + cells <= 20; b++) {
                due("BLOCK " + kind + " at " + b, isFree(b, cells), program("17 " + kind + " " + b + loopBehind(1)), 0, 0);
            }
        }
    }

    private static void enter() {
        for (int frame = 0; frame <= 4; frame++) {
            for (int b = 0; b + frame <= 20; b++) {
                CodeProof x = Programs.code(64, frame + " -1", "20 0: 15 0 " + b + loopBehind(1));
                due("ENTER of " + frame + " cells at " + b, isFree(b, frame), x, 1, 0);
            }
        }
        CodeProof x = Programs.code(64, "9 -1: 12 4 2, 13 4 3, 14 1", "9 0: 15 0 0");
        due("the counters of the unit that is entered are its own", true, x, 1, 0);
    }

    private static void readAndWrite() {
        for (int cell = 0; cell < 20; cell++) {
            String unit = "20 40: 17 5 0" + loopBehind(1);
            due("READ of cell " + cell, cell != 9, Programs.code(64, unit, "20 0: 5 0 " + cell + ", 11 2"), 1, 0);
            due("WRITE of cell " + cell, cell != 9, Programs.code(64, unit, "20 0: 0, 6 0 " + cell), 1, 1);
        }
        String own = "20 0: 5 0 9, 6 0 9" + loopBehind(2);
        due("own counters are none of unit a", true, Programs.code(64, "20 40", own), 1, 0);
    }

    private static void countAndNextAreLeftOut() {
        due("one counter for two loops", true, program("12 9 2, 13 9 3, 14 1" + loopBehind(3)), 0, 0);
    }

    /** A cell is a counter by a 12 alone, or by a 13 alone; the instruction behind is wrong for another reason. */
    private static void countersByOneOfTheTwo() {
        due("by a 12 alone", false, program("1 9, 12 9 2"), 0, 0);
        due("by a 13 alone", false, program("1 9, 13 9 2"), 0, 0);
        Check.fault("beside a 12", program("1 8, 12 9 2"), 7, 0, 1);
        Check.fault("beside a 13", program("1 10, 13 9 2"), 7, 0, 1);
        Check.fault("b is no counter", program("1 2, 12 9 2"), 7, 0, 1);
        Check.fault("b of a 13 is none either", program("1 2, 13 9 2"), 7, 0, 1);
        Check.fault("operands of others are none", program("1 9, 17 5 9 9, 0 9, 10 9"), 6, 0, 3);
    }

    private static void countersOfWrongInstructions() {
        for (int b : new int[] {-1, 1000001, Check.LEAST, Check.MOST}) {
            due("a 12 with a b of " + b, false, program("1 9, 12 9 " + b), 0, 0);
            due("a 13 with a b of " + b, false, program("1 9, 13 9 " + b), 0, 0);
        }
        for (int a : new int[] {-1, 20, 21, Check.LEAST, Check.MOST}) {
            // No cell of this unit is one that is not in its frame: it is the 12 or the 13 that is wrong.
            Check.fault("a 12 with an a of " + a, program("17 5 0, 17 0 14, 12 " + a + " 1"), 4, 0, 2);
            Check.fault("a 13 with an a of " + a, program("17 5 0, 17 0 14, 13 " + a + " 3"), 4, 0, 2);
            Check.fault("both not in the frame", program("1 " + a + ", 12 " + a + " 1"), 4, 0, 0);
        }
        Check.fault("up to a counter behind the frame", program("0, 0, 4 10 0 10, 12 20 1"), 4, 0, 3);
        Check.fault("up to the frame's last cell, a counter", program("0, 0, 4 10 0 10, 12 19 1"), 5, 0, 2);
    }

    private static void countersWhereverTheyStand() {
        due("a 12 alone, the first instruction", false, program("12 9 0, 1 9"), 0, 1);
        due("a 13 alone, the first instruction", false, program("13 9 1, 1 9"), 0, 1);
        due("a loop before", false, program("12 9 2, 13 9 3, 14 1, 1 9, 11 5"), 0, 3);
        due("the loop that it is in", false, program("12 9 2, 13 9 5, 1 9, 11 4, 14 1"), 0, 2);
        due("a loop where nothing comes", false, program("1 9, 11 2, 18" + loopBehind(3)), 0, 0);
        due("what is left out is looked at, too", false, program("18, 1 9" + loopBehind(2)), 0, 1);
        CodeProof x = program("1 9, 11 2, 12 8 2, 13 8 5, 14 3");
        Check.accepted("another counter", x);
        x.change(0, 2, 12, 9, 2, 0);
        Check.fault("a 12 that became one of 9", x, 5, 0, 0);
        x.change(0, 2, 12, 8, 2, 0);
        Check.accepted("and back", x);
        String blocks = Programs.times(252, "17 5 0");
        due("the last instructions of all", false, program("1 9, " + blocks + "12 9 2, 13 9 256, 14 254"), 0, 0);
    }

    private static void countersOfOtherUnits() {
        String loops = "20 40: 17 5 0" + loopBehind(1);
        due("LOAD of a cell like another unit's counter", true, Programs.code(64, loops, "20 0: 1 9, 11 2"), 1, 0);
        due("READ of a unit beside it", true, Programs.code(128, loops, "20 70", "20 0: 5 1 9, 11 2"), 2, 0);
        due("READ of it", false, Programs.code(128, "20 70", loops, "20 0: 5 1 9, 11 2"), 2, 0);
        String behind = "20 0: 12 4 2, 13 4 3, 14 1";
        due("counters of units behind are none", true, Programs.code(64, "20 40: 1 4, 11 2", behind), 0, 0);
        String entered = "4 -1: 12 1 2, 13 1 3, 14 1";
        due("a cell that is the counter of an entered unit", true, Programs.code(64, entered, "20 0: 15 0 5, 1 6, 11 3"), 1, 1);
    }

    private static void severalCounters() {
        String loops = ", 12 3 2, 13 3 5, 14 3, 12 12 2, 13 12 8, 14 6";
        for (int cell = 0; cell < 20; cell++) {
            boolean right = cell != 3 && cell != 12;
            due("LOAD " + cell, right, program("1 " + cell + ", 11 2" + loops), 0, 0);
        }
    }
}
