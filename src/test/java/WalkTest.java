/**
 * Promise 10, walk: "Goes a way through the program: at its j-th 11 (j from 0 on, of all units that it comes through) it goes to
 * instruction a, if bit j modulo 62 of the bits is 1, else on to the next one: how many steps that takes; 1,000,000, and ended
 * there, if it is more. BAD as for steps(), or there is no unit."
 */
public final class WalkTest {
    public static void main(String[] args) {
        noUnit();
        notProved();
        oneChoice();
        eachBit();
        bitsModulo62();
        bitsThatAreNotLookedAt();
        choicesOfAllUnits();
        choicesThatAreNotMade();
        loops();
        countersStartAnew();
        unitsEnd();
        aMillion();
        aMillionInUnits();
        nothingIsLeftOfAWalk();
        Check.end();
    }

    private static void noUnit() {
        for (long bits : new long[] {0, 1, -1, Long.MIN_VALUE, Long.MAX_VALUE}) {
            Refusal.due("walk of a new object", CodeProof::new, x -> x.walk(bits));
            Refusal.due("walk without a unit, proved", () -> Refusal.proved(Programs.code(Refusal.CELLS)), x -> x.walk(bits));
        }
        CodeProof x = Programs.program("18");
        x.prove();
        x.begin(64);
        Check.due("prove() without a unit", x.prove(), 0);
        Check.due("walk without a unit", x.walk(0), CodeProof.BAD);
    }

    private static void notProved() {
        for (String state : new String[] {"code not proved", "refused code", "accepted code to which one came"}) {
            Refusal.due("walk (" + state + ")", Refusal.states().get(state), x -> x.walk(0));
            Refusal.due("walk (" + state + ")", Refusal.states().get(state), x -> x.walk(-1));
        }
        for (int how = 0; how < Programs.DISTURBANCES; how++) {
            CodeProof x = Programs.program("10 1, 18");
            x.prove();
            Check.due("accepted", x.walk(0), 2);
            Programs.disturb(x, how);
            Check.due("disturbance " + how, x.walk(0), CodeProof.BAD);
            Check.due("proved again", x.prove(), 0);
            Check.due("proved again: walk", x.walk(0), how == 3 ? CodeProof.BAD : how == 0 ? 0 : 2);
        }
    }

    private static void due(String what, int steps, String instructions, long bits) {
        CodeProof x = Programs.program(instructions);
        Check.due(what + ": prove()", x.prove(), 0);
        Check.due(what + ": walk(" + bits + ")", x.walk(bits), steps);
    }

    private static void oneChoice() {
        due("no instruction", 0, "", -1);
        due("on to the next one", 4, "0, 11 4, 17 5 0, 17 5 0", 0);
        due("to instruction a", 2, "0, 11 4, 17 5 0, 17 5 0", 1);
        due("bit 1 is not the first one's", 4, "0, 11 4, 17 5 0, 17 5 0", 2);
        due("all bits but the first", 4, "0, 11 4, 17 5 0, 17 5 0", -2);
        due("to the next one in any case, 0", 3, "0, 11 2, 17 5 0", 0);
        due("to the next one in any case, 1", 3, "0, 11 2, 17 5 0", 1);
    }

    /** A row of choices, each going over so many blocks that the steps tell which ones were made. */
    private static void eachBit() {
        StringBuilder code = new StringBuilder();
        int at = 0;
        for (int blocks = 1; blocks <= 32; blocks *= 2) {
            code.append("0, 11 ").append(at + 2 + blocks).append(", ").append(Programs.times(blocks, "17 5 0"));
            at += 2 + blocks;
        }
        CodeProof x = Programs.program(code.toString());
        Check.due("a row of choices: prove()", x.prove(), 0);
        for (int bits = 0; bits < 64; bits++) {
            Check.due("a row of choices: walk(" + bits + ")", x.walk(bits), 12 + 63 - bits);
        }
    }

    /** So many choices that make no difference, then one that goes over a block. */
    private static void bitsModulo62() {
        for (int before = 0; before <= 190; before++) {
            CodeProof x = Programs.program("12 9 " + before + ", 13 9 5, 0, 11 4, 14 1, 0, 11 8, 17 5 0");
            Check.due(before + " choices before: prove()", x.prove(), 0);
            int all = 2 + 4 * before + 3;
            for (int bit = 0; bit < 64; bit++) {
                boolean goes = bit == before % 62;
                Check.due("choice " + before + " by bit " + bit, x.walk(1L << bit), goes ? all - 1 : all);
                Check.due("choice " + before + " by all but bit " + bit, x.walk(~(1L << bit)), goes ? all : all - 1);
            }
        }
    }

    private static void bitsThatAreNotLookedAt() {
        CodeProof x = Programs.program("12 9 130, 13 9 6, 0, 11 5, 17 5 0, 14 1");
        x.prove();
        int none = 2 + 130 * 5;
        Check.due("no bit", x.walk(0), none);
        Check.due("bit 63 alone", x.walk(Long.MIN_VALUE), none);
        Check.due("bit 62 alone", x.walk(1L << 62), none);
        Check.due("bits 62 and 63", x.walk(3L << 62), none);
        Check.due("all bits", x.walk(-1L), none - 130);
        Check.due("all bits but 63", x.walk(Long.MAX_VALUE), none - 130);
        Check.due("all bits but 62 and 63", x.walk((1L << 62) - 1), none - 130);
        Check.due("bit 61 alone", x.walk(1L << 61), none - 2);
        Check.due("bit 5 alone", x.walk(1L << 5), none - 3);
        Check.due("bit 6 alone", x.walk(1L << 6), none - 2);
    }

    private static void choicesOfAllUnits() {
        CodeProof x = Programs.code(64, "2 -1: 0, 11 3, 10 3", "4 60: 15 0 2, 0, 11 4, 18",
                "10 0: 12 9 2, 13 9 5, 16 1, 15 0 0, 14 1");
        Check.due("choices of all units: prove()", x.prove(), 0);
        // A round: 13, CALL, ENTER, PUSH, UNLESS, (GO), PUSH, UNLESS, (LEAVE), ENTER, PUSH, UNLESS, (GO), 14.
        int none = 2 + 2 * 14;
        for (int bits = 0; bits < 64; bits++) {
            Check.due("choices of all units: walk(" + bits + ")", x.walk(bits), none - Integer.bitCount(bits));
        }
        Check.due("bits behind the last choice", x.walk(-64L), none);
        // Each unit's choice goes over blocks of a number of its own: their order is that of the way.
        x = Programs.code(64, "3 20: 0, 11 3, 17 5 0", "3 30: 0, 11 4, 17 5 0, 17 5 0",
                "3 0: 16 1, 0, 11 7, 17 5 0, 17 5 0, 17 5 0, 17 5 0, 16 0");
        Check.due("the order of choices: prove()", x.prove(), 0);
        for (int bits = 0; bits < 8; bits++) {
            int over = 2 * (bits & 1) + 4 * (bits >> 1 & 1) + (bits >> 2 & 1);
            Check.due("the order of choices: walk(" + bits + ")", x.walk(bits), 8 + 4 + 3 - over);
        }
    }

    /** j counts the 11s on the way alone. */
    private static void choicesThatAreNotMade() {
        String code = "0, 11 4, 0, 11 4, 0, 11 7, 17 5 0";
        due("both gone through", 7, code, 0);
        due("the first goes over the second, the third is j = 1", 4, code, 3);
        due("the first goes over the second, the third is not j = 2", 5, code, 5);
        due("the third is j = 2", 6, code, 4);
        CodeProof x = Programs.code(64, "3 20: 0, 11 2", "3 0: 0, 11 3, 17 5 0");
        x.prove();
        Check.due("a unit that is not begun has no choice", x.walk(1), 2);
    }

    private static void loops() {
        for (int rounds : new int[] {0, 1, 2, 3, 100}) {
            due(rounds + " rounds", 2 + 3 * rounds + 1, "12 9 " + rounds + ", 13 9 4, 17 5 0, 14 1, 17 5 0", 0);
        }
        String left = "12 9 4, 13 9 5, 0, 11 6, 14 1, 18, 17 5 0, 17 5 0";
        due("not left", 2 + 4 * 4 + 1, left, 0);
        due("left in the first round", 1 + 3 + 2, left, 1);
        due("left in the second round", 1 + 4 + 3 + 2, left, 2);
        due("left in the third round", 1 + 8 + 3 + 2, left, 4);
        due("left in the last round", 1 + 12 + 3 + 2, left, 8);
        due("no fifth round to leave", 2 + 4 * 4 + 1, left, 16);
        due("left by LEAVE", 3, "12 9 4, 13 9 4, 18, 14 1", 0);
        due("left by GO", 4, "12 9 4, 13 9 4, 10 5, 14 1, 17 5 0, 17 5 0", 0);
        due("a loop in a loop", 2 + 3 * (4 + 2 * 2), "12 9 3, 13 9 6, 12 8 2, 13 8 5, 14 3, 14 1", 0);
    }

    /** A loop that was left counts from its 12 again when it is come to again. */
    private static void countersStartAnew() {
        String nest = "12 9 3, 13 9 8, 12 8 5, 13 8 7, 0, 11 7, 14 3, 14 1";
        due("inner loop left each time", 2 + 3 * (2 + 3 + 1), nest, -1);
        due("inner loop left the first time alone", 2 + (2 + 3 + 1) + 2 * (2 + 5 * 4 + 2), nest, 1);
        String twice = "12 9 2, 13 9 3, 14 1, 12 9 3, 13 9 6, 14 4";
        due("one counter for two loops", 2 + 4 + 2 + 6, twice, 0);
        CodeProof x = Programs.code(64, "1 -1: 12 0 2, 13 0 3, 14 1", "2 0: 12 0 3, 13 0 4, 15 0 1, 14 1");
        Check.due("a unit's loop in a loop: prove()", x.prove(), 0);
        Check.due("a unit's loop in a loop", x.walk(0), 2 + 3 * (3 + 6));
    }

    private static void unitsEnd() {
        CodeProof x = Programs.code(64, "3 20: 18, 17 5 0", "3 30: 16 0, 16 0, 17 5 0", "3 0: 16 1, 17 5 0, 16 1");
        Check.due("LEAVE ends its unit alone: prove()", x.prove(), 0);
        Check.due("LEAVE ends its unit alone", x.walk(0), 2 * (1 + 2 * 2 + 1) + 1);
        x = Programs.code(64, "0 20", "0 30: 16 0", "0 0: 16 1, 16 0, 16 1");
        Check.due("units without instructions: prove()", x.prove(), 0);
        Check.due("units without instructions", x.walk(0), 5);
        x = Programs.code(64, "3 20: 17 5 0", "3 0: 17 5 0, 17 5 0");
        x.prove();
        Check.due("the program is the last unit", x.walk(0), 2);
        x = Programs.code(64);
        for (int unit = 0; unit < 16; unit++) {
            Programs.addUnit(x, "0 0: " + (unit == 0 ? "10 1" : "16 " + (unit - 1)));
        }
        Check.due("16 units in one another: prove()", x.prove(), 0);
        Check.due("16 units in one another", x.walk(0), 16);
    }

    private static void aMillion() {
        for (int more = 0; more <= 6; more++) {
            // 2 + 2 * 499,997 = 999,996 and so many more.
            CodeProof x = Programs.program("12 9 499997, 13 9 3, 14 1, " + Programs.times(more, "17 5 0"));
            Check.due("prove()", x.prove(), 0);
            Check.due("steps", x.steps(0), 999996 + more);
            Check.due(more + " more than 999,996", x.walk(0), Math.min(1000000, 999996 + more));
        }
        CodeProof x = Programs.program("12 9 1000000, 13 9 5, 0, 11 6, 14 1, 18, 17 5 0");
        x.prove();
        Check.due("far more", x.walk(0), 1000000);
        Check.due("few on the way that is gone", x.walk(1), 5);
        Check.due("few behind an ended one", x.walk(1), 5);
        Check.due("left in the 62nd round", x.walk(1L << 61), 1 + 61 * 4 + 3 + 1);
    }

    /** Ended in a unit that was begun: the next walk begins in the program again. */
    private static void aMillionInUnits() {
        CodeProof x = Programs.code(64, "1 20: 12 0 1000000, 13 0 3, 14 1", "1 21: 16 0, 16 0", "3 0: 0, 11 3, 16 1, 17 5 0");
        Check.due("in a unit: prove()", x.prove(), 0);
        Check.due("in a unit: steps", x.steps(2), 2 + 1 + 2 * (1 + 2000002) + 1);
        for (int k = 0; k < 40; k++) {
            Check.due("in a unit, time " + k, x.walk(0), 1000000);
            Check.due("not in it, time " + k, x.walk(1), 3);
        }
        // PUSH, UNLESS, CALL and 2 + 2 * 499,997 are 999,999, the block is the last one.
        x = Programs.code(64, "1 20: 12 0 499997, 13 0 3, 14 1", "3 0: 0, 11 3, 16 0, 17 5 0");
        x.prove();
        Check.due("a million by units", x.walk(0), 1000000);
        Check.due("a million by units: steps", x.steps(1), 1000000);
        x.add(17, 5, 0, 0);
        x.prove();
        Check.due("a million and one by units: steps", x.steps(1), 1000001);
        Check.due("a million and one by units", x.walk(0), 1000000);
        x.change(1, 3, 18, 0, 0, 0);
        x.prove();
        Check.due("a million again", x.walk(0), 1000000);
    }

    private static void nothingIsLeftOfAWalk() {
        CodeProof x = Programs.program("12 9 3, 13 9 5, 0, 11 5, 14 1");
        x.prove();
        String told = Refusal.told(x);
        for (int k = 0; k < 3; k++) {
            Check.due("left at once", x.walk(1), 4);
            Check.due("left in the second round", x.walk(2), 8);
            Check.due("left in the third round", x.walk(4), 12);
            Check.due("not left", x.walk(8), 14);
            Check.same("what is told", Refusal.told(x), told);
            Check.due("proved again", x.prove(), 0);
        }
    }
}
