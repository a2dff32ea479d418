/**
 * Promise 9, depth: "The greatest depth in a unit, with that of the units that it begins on top of where they are begun. BAD as
 * for steps()."
 */
public final class DepthTest {
    public static void main(String[] args) {
        noSuchUnit();
        notProved();
        theGreatestDepth();
        theGreatestOnAnyWay();
        whatIsLeftOut();
        sixtyFour();
        onTopOfWhereTheyAreBegun();
        theGreatestOfThoseBegun();
        unitsOnTopOfUnits();
        asDeepAsCanBe();
        begunWhereNothingComes();
        byTheLastProof();
        Check.end();
    }

    private static void due(String what, int depth, String instructions) {
        CodeProof x = Programs.program(instructions);
        Check.due(what + ": prove()", x.prove(), 0);
        Check.due(what + ": depth(0)", x.depth(0), depth);
    }

    private static void noSuchUnit() {
        for (int unit : new int[] {-1, -2, 16, 17, 255, Check.LEAST, Check.MOST}) {
            Refusal.dueInAllStates("depth(" + unit + ")", x -> x.depth(unit));
        }
        for (int units = 1; units <= 16; units++) {
            CodeProof x = Programs.code(64);
            for (int unit = 0; unit < units; unit++) {
                Programs.addUnit(x, "0 0: " + (unit % 2 == 0 ? "0, 11 2" : "0, 0, 7 0, 11 4"));
            }
            Check.accepted(units + " units", x);
            for (int unit = 0; unit < units; unit++) {
                Check.due("depth(" + unit + ") of " + units, x.depth(unit), 1 + unit % 2);
            }
            Check.due("depth(" + units + ") of " + units, x.depth(units), CodeProof.BAD);
            Check.due("depth(-1) of " + units, x.depth(-1), CodeProof.BAD);
        }
        Refusal.due("depth(0) without a unit", () -> Refusal.proved(Programs.code(Refusal.CELLS)), x -> x.depth(0));
    }

    private static void notProved() {
        for (String state : new String[] {"code not proved", "refused code", "accepted code to which one came", "a new object"}) {
            Refusal.due("depth(0) (" + state + ")", Refusal.states().get(state), x -> x.depth(0));
            Refusal.due("depth(2) (" + state + ")", Refusal.states().get(state), x -> x.depth(2));
        }
        for (int how = 0; how < Programs.DISTURBANCES; how++) {
            CodeProof x = Programs.program("10 1, 0, 2 0, 18");
            x.prove();
            Check.due("accepted", x.depth(0), 1);
            Programs.disturb(x, how);
            Check.due("disturbance " + how, x.depth(0), CodeProof.BAD);
            Check.due("proved again", x.prove(), 0);
            Check.due("proved again: depth", x.depth(0), how == 3 ? CodeProof.BAD : 1);
        }
        CodeProof x = Programs.code(64, "10 20: 18", "10 0: 19");
        Check.fault("refused in its second unit", x, 2, 1, 0);
        Check.due("the first unit is right, but prove() did not answer 0", x.depth(0), CodeProof.BAD);
    }

    private static void theGreatestDepth() {
        due("no instruction", 0, "");
        due("nothing on the stack", 0, "17 5 0, 10 2, 18");
        due("one", 1, "0, 2 0");
        due("one, again and again", 1, "0, 2 0, 1 0, 2 1, 0, 8 0, 11 7");
        due("two", 2, "0, 0, 7 0, 2 0");
        due("three", 3, "0, 0, 0, 9, 2 0");
        due("the greatest first", 3, "0, 0, 0, 9, 2 0, 0, 0, 7 0, 2 0");
        due("the greatest last", 3, "0, 0, 7 0, 2 0, 0, 0, 0, 9, 2 0");
        due("the greatest in the midst", 3, "0, 2 0, 0, 0, 0, 9, 2 0, 0, 2 0");
    }

    private static void theGreatestOnAnyWay() {
        due("straight on", 2, "0, 11 6, 0, 0, 4 0 0 2, 18, 0, 2 0");
        due("where UNLESS goes", 2, "0, 11 5, 0, 2 0, 18, 0, 0, 4 0 0 2");
        due("in a round", 2, "12 9 3, 13 9 6, 0, 0, 4 0 0 2, 14 1");
        due("in a round of none", 2, "12 9 0, 13 9 6, 0, 0, 4 0 0 2, 14 1");
        due("behind a loop", 2, "12 9 3, 13 9 3, 14 1, 0, 0, 4 0 0 2");
        due("behind a loop that is always left", 2, "12 9 3, 13 9 4, 18, 14 1, 0, 0, 4 0 0 2");
    }

    private static void whatIsLeftOut() {
        due("behind LEAVE", 1, "0, 2 0, 18, 0, 0, 4 0 0 2");
        due("behind GO", 1, "0, 2 0, 10 5, 0, 0, 18");
        due("behind what is always gone over", 0, "10 4, 0, 0, 4 0 0 2");
    }

    /** Up to a depth, and back to none: each CHOOSE leaves two less, TWO one less. */
    private static String deep(int depth) {
        int even = depth - depth % 2;
        return Programs.times(depth, "0") + Programs.times(depth % 2, "2 0")
                + (even == 0 ? "" : Programs.times(even / 2 - 1, "9") + "7 0, 2 0");
    }

    private static void sixtyFour() {
        for (int depth : new int[] {0, 1, 2, 3, 31, 32, 33, 62, 63, 64}) {
            due("a depth of " + depth, depth, deep(depth));
        }
        Check.fault("a depth of 65", Programs.program(deep(65)), 9, 0, 64);
    }

    /** One unit, begun with so many on the stack. */
    private static void onTopOfWhereTheyAreBegun() {
        for (int there = 0; there <= 4; there++) {
            for (int depth = 0; depth <= 4; depth++) {
                String begun = Programs.times(there, "0 7");
                String end = Programs.times(there, "2 0");
                CodeProof x = Programs.code(64, "1 60: " + deep(depth), "1 0: " + begun + "16 0, " + end);
                dueOfTwo("CALL at " + there + " of a depth of " + depth, x, depth, there + depth);
                x = Programs.code(64, "1 -1: " + deep(depth), "1 0: " + begun + "15 0 0, " + end);
                dueOfTwo("ENTER at " + there + " of a depth of " + depth, x, depth, there + depth);
            }
        }
    }

    private static void dueOfTwo(String what, CodeProof x, int first, int second) {
        Check.due(what + ": prove()", x.prove(), 0);
        Check.due(what + ": depth(0)", x.depth(0), first);
        Check.due(what + ": depth(1)", x.depth(1), second);
    }

    private static void theGreatestOfThoseBegun() {
        CodeProof x = Programs.code(64, "1 60: " + deep(3), "1 61: " + deep(2), "1 0: 0, 0, 16 1, 4 0 0 1, 16 0");
        Check.accepted("2 at 2 and 3 at 0", x);
        Check.due("2 at 2 and 3 at 0", x.depth(2), 4);
        x = Programs.code(64, "1 60: " + deep(3), "1 61: " + deep(2), "1 0: 0, 16 0, 2 0, 16 1");
        Check.accepted("3 at 1 and 2 at 0", x);
        Check.due("3 at 1 and 2 at 0", x.depth(2), 4);
        x = Programs.code(64, "1 60: " + deep(1), "1 0: 16 0, 0, 0, 0, 9, 2 0");
        dueOfTwo("its own is greater", x, 1, 3);
        x = Programs.code(64, "1 60: " + deep(3), "1 0: 0, 0, 16 0, 7 0, 16 0, 2 0");
        dueOfTwo("the same unit at 2 and at 1", x, 3, 5);
        x = Programs.code(64, "1 60: " + deep(3), "1 0: 0, 16 0, 0, 16 0, 7 0, 2 0");
        dueOfTwo("the same unit at 1 and at 2", x, 3, 5);
    }

    private static void unitsOnTopOfUnits() {
        CodeProof x = Programs.code(64);
        for (int unit = 0; unit < 16; unit++) {
            String begins = unit == 0 ? "" : "15 " + (unit - 1) + " 0, ";
            Programs.addUnit(x, "1 " + (unit == 15 ? 0 : -1) + ": " + Programs.times(5, "0") + begins + Programs.times(5, "2 0"));
        }
        Check.accepted("16 units of 5", x);
        for (int unit = 0; unit < 16; unit++) {
            Check.due("depth(" + unit + ")", x.depth(unit), 5 * (unit + 1));
        }
    }

    /** 64 on top of 64: no unit's own depth is above 64. */
    private static void asDeepAsCanBe() {
        CodeProof x = Programs.code(64, "1 60: " + deep(64), "1 0: " + Programs.times(64, "0") + "16 0, "
                + Programs.times(31, "9") + "7 0, 2 0");
        dueOfTwo("64 on top of 64", x, 64, 128);
        x = Programs.code(64, "1 60: " + deep(64), "1 0: 0, 16 0, 2 0");
        dueOfTwo("64 on top of 1", x, 64, 65);
    }

    private static void begunWhereNothingComes() {
        String unit = "1 60: " + deep(2);
        dueOfTwo("behind LEAVE", Programs.code(64, unit, "1 0: 0, 2 0, 18, 0, 16 0"), 2, 1);
        dueOfTwo("gone over", Programs.code(64, unit, "1 0: 10 2, 16 0"), 2, 0);
        dueOfTwo("in a round of none", Programs.code(64, unit, "2 0: 12 1 0, 13 1 4, 16 0, 14 1"), 2, 2);
        dueOfTwo("not begun at all", Programs.code(64, unit, "1 0: 0, 2 0"), 2, 1);
    }

    private static void byTheLastProof() {
        CodeProof x = Programs.code(64, "1 60: " + deep(4), "1 0: 0, 16 0, 2 0");
        dueOfTwo("first", x, 4, 5);
        x.change(0, 0, 18, 0, 0, 0);
        dueOfTwo("a unit that became flat", x, 0, 1);
        x.change(1, 0, 18, 0, 0, 0);
        dueOfTwo("a program that became flat", x, 0, 0);
    }
}
