/**
 * Promise 6, fault 7. "A LOOP is all from a 13 to the instruction before the one where it goes; the 13 is not IN it, all
 * others are." Each sentence on 12, 13, 14, 10 and 11 has its method here.
 */
public final class LoopFaultTest {
    public static void main(String[] args) {
        loopsThatAreRight();
        behindCountIsNoNext();
        countInALoopWithItsCounter();
        beforeNextIsNoCount();
        lastOneIsNoBackToIt();
        nextInALoopThatItsLastOneIsNotIn();
        backToNoNextThatGoesBehindIt();
        goIntoALoop();
        goFromLoopsIntoLoops();
        goInAndOutOfLoops();
        unlessIntoALoop();
        whereNothingComes();
        otherInstructionsMakeNoLoop();
        onlyTheUnitsOwn();
        Check.end();
    }

    private static void due(String what, int at, String instructions) {
        Check.fault(what, Programs.program(instructions), at < 0 ? 0 : 7, at < 0 ? -1 : 0, at);
    }

    private static void loopsThatAreRight() {
        due("an empty loop", -1, "12 9 2, 13 9 3, 14 1");
        due("a loop", -1, "12 9 2, 13 9 5, 17 5 0, 17 5 0, 14 1");
        due("a loop in a loop", -1, "12 9 2, 13 9 6, 12 8 2, 13 8 5, 14 3, 14 1");
        due("three in one another", -1, "12 9 2, 13 9 9, 12 8 2, 13 8 8, 12 7 2, 13 7 7, 14 5, 14 3, 14 1");
        due("two in one", -1, "12 9 2, 13 9 9, 12 8 2, 13 8 5, 14 3, 12 8 2, 13 8 8, 14 6, 14 1");
        due("one behind the other", -1, "12 9 2, 13 9 3, 14 1, 12 9 2, 13 9 6, 14 4");
    }

    /** "Of 12: right behind it is no 13 with the same a". */
    private static void behindCountIsNoNext() {
        due("at the unit's end", 0, "12 9 2");
        due("at the unit's end, behind a loop", 3, "12 9 2, 13 9 3, 14 1, 12 9 2");
        due("another instruction", 0, "12 9 2, 17 5 0");
        due("another instruction between", 0, "12 9 2, 17 5 0, 13 9 4, 14 2");
        due("another 12 between", 0, "12 9 2, 12 9 2, 13 9 4, 14 2");
        due("a BACK behind it", 2, "12 9 2, 13 9 4, 12 8 2, 14 1");
        due("a 13 of the cell before", 0, "12 8 2, 13 7 3, 14 1");
        due("a 13 of the cell behind", 0, "12 8 2, 13 9 3, 14 1");
        due("a 13 whose b is its a", 0, "12 3 2, 13 9 3, 14 1");
    }

    /** "Of 12: .. or it is in a loop whose 13 has the same a". */
    private static void countInALoopWithItsCounter() {
        due("first in the loop", 2, "12 9 2, 13 9 6, 12 9 2, 13 9 5, 14 3, 14 1");
        due("further in the loop", 3, "12 9 2, 13 9 7, 17 5 0, 12 9 2, 13 9 6, 14 4, 14 1");
        due("two loops in", 4, "12 9 2, 13 9 9, 12 8 2, 13 8 8, 12 9 2, 13 9 7, 14 5, 14 3, 14 1");
        due("with the inner one's counter", 4, "12 9 2, 13 9 9, 12 8 2, 13 8 8, 12 8 2, 13 8 7, 14 5, 14 3, 14 1");
        due("with another counter", -1, "12 9 2, 13 9 7, 17 5 0, 12 8 2, 13 8 6, 14 4, 14 1");
        due("right behind the loop", -1, "12 9 2, 13 9 4, 17 5 0, 14 1, 12 9 2, 13 9 7, 14 5");
        due("right behind an inner loop with its counter", -1, "12 9 2, 13 9 9, 12 8 2, 13 8 5, 14 3, 12 8 2, 13 8 8, 14 6, 14 1");
        due("before a loop with its counter", -1, "12 9 0, 13 9 3, 14 1, 12 9 0, 13 9 6, 14 4");
    }

    /** "Of 13: right before it is no 12 with the same a". A 12 of another cell right before it is wrong itself, first. */
    private static void beforeNextIsNoCount() {
        due("the first instruction", 0, "13 9 2, 14 0");
        due("another instruction", 1, "17 5 0, 13 9 3, 14 1");
        due("a 13 between", 2, "12 9 2, 13 9 4, 13 9 4, 14 1");
        due("a BACK before it", 3, "12 9 2, 13 9 3, 14 1, 13 9 5, 14 3");
        due("a 12 of another cell", 0, "12 8 2, 13 9 3, 14 1");
        due("a 12 two before it", 0, "12 9 2, 17 5 0, 13 9 4, 14 2");
    }

    /** "Of 13: .. or the last instruction of its loop is not a 14 that goes to it". */
    private static void lastOneIsNoBackToIt() {
        due("the loop is the 13 alone", 1, "12 9 2, 13 9 2, 14 1");
        due("the 13 alone, at the end", 1, "12 9 2, 13 9 2");
        due("no 14", 1, "12 9 2, 13 9 3, 17 5 0");
        due("a GO instead", 1, "12 9 2, 13 9 3, 10 3");
        due("it goes one too near", 1, "12 9 2, 13 9 3, 17 5 0, 14 1");
        due("it goes one too far", 1, "12 9 2, 13 9 5, 17 5 0, 14 1, 17 5 0");
        due("a 14 that goes to the 12", 1, "12 9 2, 13 9 4, 17 5 0, 14 0");
        due("a 14 that goes behind the 13", 1, "12 9 2, 13 9 4, 17 5 0, 14 2");
        due("a 14 that goes to the outer 13", 3, "12 9 2, 13 9 6, 12 8 2, 13 8 5, 14 1, 14 1");
        due("a 14 that goes to the inner 13", 1, "12 9 2, 13 9 6, 12 8 2, 13 8 5, 14 3, 14 3");
        due("both end with the outer one's", 3, "12 9 2, 13 9 5, 12 8 2, 13 8 5, 14 1");
        due("both end with the inner one's", 1, "12 9 2, 13 9 5, 12 8 2, 13 8 5, 14 3");
    }

    /** "Of 13: .. or it is in another loop, and its own last one is not". */
    private static void nextInALoopThatItsLastOneIsNotIn() {
        due("loops that cross", 3, "12 9 2, 13 9 5, 12 8 2, 13 8 6, 14 1, 14 3");
        due("loops that cross further on", 3, "12 9 2, 13 9 5, 12 8 2, 13 8 8, 14 1, 17 5 0, 17 5 0, 14 3");
        due("one that ends right before the outer one", -1, "12 9 2, 13 9 6, 12 8 2, 13 8 5, 14 3, 14 1");
        due("out of the middle one of three", 5, "12 9 2, 13 9 9, 12 8 2, 13 8 7, 12 7 2, 13 7 8, 14 3, 14 5, 14 1");
        due("out of the outer one of three", 3, "12 9 2, 13 9 7, 12 8 2, 13 8 9, 12 7 2, 13 7 8, 14 1, 14 5, 14 3");
        due("out of both of three", 5, "12 9 2, 13 9 8, 12 8 2, 13 8 7, 12 7 2, 13 7 9, 14 3, 14 1, 14 5");
        due("right behind another one", -1, "12 9 2, 13 9 3, 14 1, 12 8 2, 13 8 6, 14 4");
    }

    /** "Of 14: where it goes is no 13 that goes right behind it". */
    private static void backToNoNextThatGoesBehindIt() {
        due("to a block", 1, "17 5 0, 14 0");
        due("to a GO that goes behind it", 1, "10 2, 14 0");
        due("to a BACK", 3, "12 9 2, 13 9 3, 14 1, 14 2");
        due("to the 12 in the loop", 2, "12 9 2, 13 9 4, 14 0, 14 1");
        due("to the 13, one before its last", 2, "12 9 2, 13 9 4, 14 1, 14 1");
        due("to the 13, two before its last", 2, "12 9 2, 13 9 5, 14 1, 17 5 0, 14 1");
        due("to the 13, right behind its last", 3, "12 9 2, 13 9 3, 14 1, 14 1");
        due("to the 13, further behind", 4, "12 9 2, 13 9 3, 14 1, 17 5 0, 14 1");
        due("to the 13 of the outer loop", 4, "12 9 2, 13 9 7, 12 8 2, 13 8 6, 14 1, 14 3, 14 1");
    }

    /** "Of 10 and 11: where they go is in a loop, or its 13, and they are not in that loop". */
    private static void goIntoALoop() {
        String loop = ", 17 5 0, 12 9 2, 13 9 7, 17 5 0, 17 5 0, 14 3, 17 5 0";
        for (int to = 1; to <= 8; to++) {
            boolean into = to >= 3 && to <= 6;
            due("GO to " + to + ", the loop being 3 to 6", into ? 0 : -1, "10 " + to + loop);
        }
        due("right before the 12, to the 13", 0, "10 2, 12 9 2, 13 9 4, 14 2");
        due("right before the 12, to the 12", -1, "10 1, 12 9 2, 13 9 4, 14 2");
        due("right before the 12, to the BACK", 0, "10 3, 12 9 2, 13 9 4, 14 2");
        due("right before the 12, to behind the loop", -1, "10 4, 12 9 2, 13 9 4, 14 2");
        due("between two loops, into the second", 3, "12 9 2, 13 9 3, 14 1, 10 6, 12 9 2, 13 9 7, 14 5");
        due("between two loops, over the second", -1, "12 9 2, 13 9 3, 14 1, 10 7, 12 9 2, 13 9 7, 14 5");
        due("into a loop that is wrong itself", 0, "10 2, 13 9 3, 17 5 0");
    }

    private static void goFromLoopsIntoLoops() {
        due("from a loop into the next one", 2, "12 9 2, 13 9 4, 10 6, 14 1, 12 9 2, 13 9 7, 14 5");
        due("from a loop to the next one's 13", 2, "12 9 2, 13 9 4, 10 5, 14 1, 12 9 2, 13 9 7, 14 5");
        due("from a loop to the next one's 12", -1, "12 9 2, 13 9 4, 10 4, 14 1, 12 9 2, 13 9 7, 14 5");
        String inner = ", 12 8 2, 13 8 7, 17 5 0, 14 4, 17 5 0, 14 1";
        for (int to = 3; to <= 9; to++) {
            boolean into = to >= 4 && to <= 6;
            due("from the outer loop to " + to + ", the inner one being 4 to 6", into ? 2 : -1, "12 9 2, 13 9 9, 10 " + to + inner);
        }
        String siblings = "12 9 2, 13 9 10, 12 8 2, 13 8 6, 10 8, 14 3, 12 8 2, 13 8 9, 14 7, 14 1";
        due("from an inner loop into the inner one beside it", 4, siblings);
        due("from an inner loop to the 12 beside it", -1, siblings.replace("10 8", "10 6"));
        due("from before both into the inner one", 0, "10 5, 12 9 2, 13 9 7, 12 8 2, 13 8 6, 14 4, 14 2");
        due("from before both into the outer one alone", 0, "10 6, 12 9 2, 13 9 7, 12 8 2, 13 8 6, 14 4, 14 2");
    }

    private static void goInAndOutOfLoops() {
        due("in the loop, to the next one", -1, "12 9 2, 13 9 5, 10 3, 17 5 0, 14 1");
        due("in the loop, to its last one", -1, "12 9 2, 13 9 5, 10 4, 17 5 0, 14 1");
        due("out of the loop, to where it goes", -1, "12 9 2, 13 9 5, 10 5, 17 5 0, 14 1, 17 5 0");
        due("out of the loop, further", -1, "12 9 2, 13 9 5, 10 6, 17 5 0, 14 1, 17 5 0");
        String nest = "12 9 2, 13 9 9, 12 8 2, 13 8 7, 10 %, 17 5 0, 14 3, 17 5 0, 14 1, 17 5 0";
        for (int to = 5; to <= 10; to++) {
            due("out of the inner loop to " + to, -1, nest.replace("%", "" + to));
        }
    }

    private static void unlessIntoALoop() {
        String loop = ", 17 5 0, 12 9 2, 13 9 8, 17 5 0, 17 5 0, 14 4, 17 5 0";
        for (int to = 2; to <= 9; to++) {
            boolean into = to >= 4 && to <= 7;
            due("UNLESS to " + to + ", the loop being 4 to 7", into ? 1 : -1, "0, 11 " + to + loop);
        }
        String nest = "12 9 2, 13 9 10, 12 8 2, 13 8 8, 0, 11 %, 17 5 0, 14 3, 17 5 0, 14 1, 17 5 0";
        for (int to = 6; to <= 11; to++) {
            due("UNLESS out of the inner loop to " + to, -1, nest.replace("%", "" + to));
        }
        String inner = "12 9 2, 13 9 10, 0, 11 %, 12 8 2, 13 8 8, 17 5 0, 14 5, 17 5 0, 14 1";
        for (int to = 4; to <= 10; to++) {
            boolean into = to >= 5 && to <= 7;
            due("UNLESS from the outer loop to " + to, into ? 3 : -1, inner.replace("%", "" + to));
        }
    }

    private static void whereNothingComes() {
        due("a 12", 1, "18, 12 9 2");
        due("a 13", 1, "18, 13 9 3, 14 1");
        due("a 14", 2, "18, 17 5 0, 14 1");
        due("a 10", 1, "18, 10 4, 12 9 2, 13 9 5, 14 3");
        due("a 11", 1, "18, 11 4, 12 9 2, 13 9 5, 14 3");
    }

    /** An operand b that is behind the instruction, as a 13's would be. */
    private static void otherInstructionsMakeNoLoop() {
        for (String other : new String[] {"0 9 5", "1 0 5", "2 0 5", "3 0 5 1", "7 0 5", "8 0 5", "9 9 5", "10 2 5", "11 2 5",
            "17 5 5", "18 9 5"}) {
            due("GO over " + other, -1, "10 3, " + other + ", 17 5 0, 17 5 0, 17 5 0, 17 5 0");
        }
    }

    /** What stands right behind the unit's last instruction, or right before its first, is none of its own. */
    private static void onlyTheUnitsOwn() {
        CodeProof x = Programs.code(64, "10 -1: 12 9 2", "10 0: 13 9 2, 14 0");
        Check.fault("a 12 whose 13 is another unit's", x, 7, 0, 0);
        x = Programs.code(64, "10 -1: 12 9 2, 13 9 3, 14 1", "10 0: 13 9 2, 14 0");
        Check.fault("a 13 first in its unit", x, 7, 1, 0);
        x = Programs.code(64, "10 -1: 12 9 2, 13 9 4, 17 5 0, 14 1", "10 0: 10 2, 17 5 0, 17 5 0");
        Check.accepted("a GO to where another unit has a loop", x);
        x = Programs.code(64, "10 -1: 12 9 2, 13 9 6, 17 5 0, 17 5 0, 17 5 0, 14 1", "10 0: 17 5 0, 17 5 0, 12 9 2, 13 9 5, 14 3");
        Check.accepted("a 12 where another unit has a loop with its counter", x);
        // Where the first unit has its 13, the second one has a block whose b is no place to go to.
        x = Programs.code(64, "10 20: 12 9 2, 13 9 4, 17 5 0, 14 1", "10 0: 10 2, 17 5 4, 17 5 0, 12 9 0, 13 9 6, 14 4");
        Check.accepted("a GO over what was a 13 in another unit", x);
        x = Programs.code(64, "10 20: 12 9 2, 13 9 3, 14 1", "10 0: 12 9 2, 13 9 2");
        Check.fault("a loop without an end in the second unit", x, 7, 1, 1);
    }
}
