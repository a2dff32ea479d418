/**
 * Promise 6, faults 8 to 10: "the first one begins with a DEPTH of 0; an instruction to which none of those that were looked
 * at goes is left out. .. FAULT 8: it takes more than the depth. FAULT 9: the depth behind it is above 64. FAULT 10: it goes to
 * where one went before with another depth (the first instruction: 0; the unit's end: 0 in any case)."
 */
public final class StackFaultTest {
    /** What each number takes and leaves, as the document says it. */
    private static final String[] TAKEN_AND_LEFT = {"0/1", "0/1", "1/0", "1/1", "2/0", "0/1", "1/0", "2/1", "1/1", "3/1", "0/0",
        "1/0", "0/0", "0/0", "0/0", "0/0", "0/0", "0/0", "0/0"};

    public static void main(String[] args) {
        everyNumberAtEveryDepth();
        emptyStack();
        sixtyFour();
        unitsBegunDoNotCountForSixtyFour();
        theFirstInstruction();
        atTheEnd();
        goneToWithAnotherDepth();
        goneToByUnless();
        goneToByNextAndBack();
        leftOut();
        whatIsReachedOnlyInADocumentsSense();
        loopsAtADepth();
        everyUnitBeginsAndEndsEmpty();
        Check.end();
    }

    private static int taken(int number) {
        return TAKEN_AND_LEFT[number].charAt(0) - '0';
    }

    private static int left(int number) {
        return TAKEN_AND_LEFT[number].charAt(2) - '0';
    }

    /** Behind the instruction the unit ends, so that the depth must be 0 there. */
    private static void everyNumberAtEveryDepth() {
        for (int number = 0; number <= 18; number++) {
            for (int depth = 0; depth <= 64 && (number < 12 || number > 14); depth++) {
                int behind = depth - taken(number) + left(number);
                int fault = taken(number) > depth ? 8 : behind > 64 ? 9 : behind == 0 ? 0 : 10;
                int a = number == 10 || number == 11 ? depth + 1 : number == 15 ? 1 : 0;
                CodeProof x = Programs.code(64, "4 60", "3 -1",
                        "10 0: " + Programs.times(depth, "0 7") + number + " " + a + " 0 1");
                Check.fault("number " + number + " at a depth of " + depth, x, fault, fault == 0 ? -1 : 2,
                        fault == 0 ? -1 : depth);
            }
        }
    }

    private static void emptyStack() {
        String[] taking = {"2 0", "3 0 0 1", "4 0 0 1", "6 0 0", "7 0", "8 0", "9", "11 %"};
        int[] many = {1, 1, 2, 1, 2, 1, 3, 1};
        for (int k = 0; k < taking.length; k++) {
            for (int there = 0; there < many[k]; there++) {
                String it = taking[k].replace("%", "" + (there + 1));
                CodeProof x = Programs.code(64, "4 60", "10 0: " + Programs.times(there, "0 7") + it);
                Check.fault(it + " with " + there, x, 8, 1, there);
                x = Programs.code(64, "4 60", "10 0: 17 5 0, 0, 2 0, " + Programs.times(there, "0 7")
                        + taking[k].replace("%", "" + (there + 4)));
                Check.fault(it + " with " + there + " left of more", x, 8, 1, there + 3);
            }
            String it = taking[k].replace("%", "" + (many[k] + 1));
            CodeProof x = Programs.code(64, "4 60", "10 0: " + Programs.times(many[k], "0 7") + it
                    + (left(Integer.parseInt(it.split(" ")[0])) == 1 ? ", 2 0" : ""));
            Check.accepted(it + " with all that it takes", x);
        }
    }

    /** From 64 numbers to none: each CHOOSE leaves two less, TWO one less. */
    private static final String FROM_64 = Programs.times(31, "9") + "7 0, 2 0";

    private static void sixtyFour() {
        String[] leaving = {"0 1", "1 0", "5 0 0"};
        for (String it : leaving) {
            String units = "10 0: " + Programs.times(63, "0 7");
            CodeProof x = Programs.code(64, "4 60", units + it + ", " + FROM_64);
            Check.accepted(it + " to a depth of 64", x);
            Check.due(it + " to a depth of 64", x.depth(1), 64);
            x = Programs.code(64, "4 60", units + "0 7, " + it + ", " + FROM_64);
            Check.fault(it + " to a depth of 65", x, 9, 1, 64);
            x = Programs.code(64, "4 60", units + "0 7, " + it);
            Check.fault(it + " to a depth of 65, at the end", x, 9, 1, 64);
        }
        for (String it : new String[] {"3 0 0 1", "8 0", "17 5 0", "10 65", "12 9 1, 13 9 67, 14 65", "16 0"}) {
            CodeProof x = Programs.code(64, "4 60", "10 0: " + Programs.times(64, "0 7") + it + ", " + FROM_64);
            Check.accepted(it + " at a depth of 64", x);
        }
        CodeProof x = Programs.program(Programs.times(62, "0 7") + "0, 0, 7 0, 0, 7 0, 0, 0");
        Check.fault("64, 63, 64, 63, 64, 65", x, 9, 0, 68);
    }

    private static void unitsBegunDoNotCountForSixtyFour() {
        String deep = Programs.times(64, "0 7") + FROM_64;
        CodeProof x = Programs.code(64, "4 60: " + deep, "10 0: 0, 0, 16 0, 7 0, 2 0");
        Check.accepted("a unit of a depth of 64 begun at 2", x);
        Check.due("its depth", x.depth(1), 66);
    }

    /** It begins with 0; only a 14 could go to it, and is refused before, as a 13 there has no 12 before it. */
    private static void theFirstInstruction() {
        Check.fault("it takes one", Programs.program("2 0, 17 5 0"), 8, 0, 0);
        Check.fault("a 14 goes to it", Programs.program("17 5 0, 14 0"), 7, 0, 1);
        Check.fault("a 14 goes to it with one more", Programs.program("0, 14 0"), 7, 0, 1);
        Check.fault("a 14 goes to it, a 13", Programs.program("13 9 3, 0, 14 0"), 7, 0, 0);
        Check.fault("it is the only one", Programs.program("0"), 10, 0, 0);
        Check.accepted("it is the end, too", Programs.program(""));
    }

    private static void atTheEnd() {
        Check.fault("one left", Programs.program("0"), 10, 0, 0);
        Check.fault("one of two left", Programs.program("0, 0, 2 0"), 10, 0, 2);
        Check.fault("GO to the end with one", Programs.program("0, 10 3, 2 0"), 10, 0, 1);
        Check.fault("UNLESS to the end with one", Programs.program("0, 0, 11 4, 2 0"), 10, 0, 2);
        Check.fault("NEXT to the end with one", Programs.program("0, 12 9 2, 13 9 4, 14 2"), 10, 0, 2);
        Check.fault("LEAVE with one", Programs.program("0, 18"), 10, 0, 1);
        Check.fault("LEAVE with one, though the end is taken from", Programs.program("0, 18, 2 0"), 10, 0, 1);
        Check.accepted("GO to the end with none", Programs.program("10 2, 0"));
        Check.accepted("LEAVE with none", Programs.program("0, 2 0, 18"));
        Check.accepted("UNLESS to the end with none", Programs.program("0, 11 4, 0, 2 0"));
        Check.accepted("no instruction", Programs.program(""));
    }

    private static void goneToWithAnotherDepth() {
        Check.fault("one more, by the next one", Programs.program("0, 11 3, 0, 17 5 0"), 10, 0, 2);
        Check.fault("one less, by the next one", Programs.program("0, 0, 11 4, 2 0, 2 0"), 10, 0, 3);
        Check.accepted("the same, by the next one", Programs.program("0, 0, 11 4, 8 0, 2 0"));
        Check.fault("one more, by GO", Programs.program("0, 11 4, 0, 10 5, 17 5 0, 17 5 0"), 10, 0, 4);
        Check.accepted("the same, by GO", Programs.program("0, 11 4, 17 5 0, 10 5, 17 5 0, 17 5 0"));
        Check.fault("GO to where UNLESS went with less", Programs.program("0, 11 5, 0, 10 5, 17 5 0, 17 5 0"), 10, 0, 3);
        Check.fault("two more", Programs.program("0, 11 4, 0, 0, 17 5 0"), 10, 0, 3);
        Check.accepted("two more, of which two are taken", Programs.program("0, 11 5, 0, 0, 4 0 0 2, 17 5 0"));
    }

    private static void goneToByUnless() {
        Check.fault("where it says", Programs.program("0, 11 6, 0, 0, 11 6, 2 0, 17 5 0"), 10, 0, 4);
        Check.accepted("where it says, with the same", Programs.program("0, 11 6, 0, 17 5 0, 11 6, 17 5 0, 17 5 0"));
        Check.fault("the next one", Programs.program("0, 11 5, 0, 0, 11 7, 17 5 0, 2 0, 17 5 0"), 10, 0, 4);
        Check.accepted("to the next one both ways", Programs.program("0, 11 2"));
    }

    private static void goneToByNextAndBack() {
        Check.fault("a round leaves one more", Programs.program("12 9 2, 13 9 4, 0, 14 1"), 10, 0, 3);
        Check.fault("a round leaves one less", Programs.program("0, 12 9 2, 13 9 5, 2 0, 14 2, 2 0"), 10, 0, 4);
        Check.accepted("a round leaves as many", Programs.program("0, 12 9 2, 13 9 5, 8 0, 14 2, 2 0"));
        Check.fault("NEXT to where one went with another depth",
                Programs.program("0, 0, 11 7, 2 0, 12 9 2, 13 9 7, 14 5, 17 5 0"), 10, 0, 5);
        Check.accepted("NEXT to where one went with the same",
                Programs.program("0, 0, 11 7, 17 5 0, 12 9 2, 13 9 7, 14 5, 2 0"));
        Check.fault("left with more than where NEXT goes", Programs.program("12 9 2, 13 9 5, 0, 10 5, 14 1, 17 5 0"), 10, 0, 3);
        Check.accepted("left with as many", Programs.program("12 9 2, 13 9 5, 17 5 0, 10 5, 14 1, 17 5 0"));
    }

    private static void leftOut() {
        Check.accepted("behind LEAVE", Programs.program("18, 2 0, 9, 0"));
        Check.accepted("behind GO", Programs.program("10 3, 9, 0, 17 5 0"));
        Check.accepted("behind BACK", Programs.program("12 9 2, 13 9 4, 10 6, 14 1, 10 7, 9, 17 5 0"));
        Check.accepted("where only what is left out goes", Programs.program("18, 10 3, 0, 9, 11 5"));
        Check.accepted("a loop where nothing comes", Programs.program("18, 12 9 2, 13 9 5, 0, 14 2, 2 0"));
        Check.accepted("a BACK to which nothing comes", Programs.program("12 9 2, 13 9 5, 18, 0, 14 1"));
        Check.accepted("too deep where nothing comes", Programs.program("18, " + Programs.times(65, "0")));
        Check.fault("behind UNLESS both are looked at", Programs.program("0, 11 3, 18, 2 0"), 8, 0, 3);
        Check.fault("behind UNLESS the next one, too", Programs.program("0, 11 3, 2 0"), 8, 0, 2);
        Check.accepted("what is left out sends nothing on", Programs.program("10 3, 0, 0, 17 5 0"));
    }

    /** A loop gone through no times, and what comes behind one that is always left, are looked at all the same. */
    private static void whatIsReachedOnlyInADocumentsSense() {
        Check.fault("a round of none", Programs.program("12 9 0, 13 9 4, 2 0, 14 1"), 8, 0, 2);
        Check.fault("behind a loop that is always left", Programs.program("12 9 1, 13 9 4, 18, 14 1, 2 0"), 8, 0, 4);
    }

    private static void loopsAtADepth() {
        Check.accepted("a loop at a depth of 2", Programs.program("0, 0, 12 9 2, 13 9 6, 8 0, 14 3, 7 0, 2 0"));
        Check.fault("a loop at a depth of 2, left out of with 1",
                Programs.program("0, 0, 12 9 2, 13 9 7, 7 0, 10 7, 14 3, 7 0, 2 0"), 10, 0, 5);
    }

    private static void everyUnitBeginsAndEndsEmpty() {
        Check.fault("the first unit ends with one", Programs.code(64, "4 60: 0", "4 0"), 10, 0, 0);
        Check.fault("a unit takes from where it is begun", Programs.code(64, "4 60: 2 0", "4 0: 0, 16 0"), 8, 0, 0);
        Check.fault("what the first unit left is gone", Programs.code(64, "4 60: 0, 2 0", "4 0: 2 0"), 8, 1, 0);
        Check.accepted("a unit begun at a depth of 1", Programs.code(64, "4 60: 0, 2 0", "4 0: 0, 16 0, 2 0"));
        Check.fault("ENTER leaves the depth as it is", Programs.code(64, "4 -1: 0, 2 0", "4 0: 0, 15 0 0"), 10, 1, 1);
    }
}
