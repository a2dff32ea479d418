/**
 * Promise 8, steps: "The steps of a unit. BAD: there is none, or prove() did not answer 0 since code came or changed." By the
 * document's terms they are "the greatest number that some way through it takes".
 */
public final class StepsTest {
    public static void main(String[] args) {
        noSuchUnit();
        notProved();
        instructionsAreOneStepEach();
        theLongerWay();
        loopsAsOftenAsTheySay();
        loopsInLoops();
        leftByLeave();
        leftByGo();
        leftByUnless();
        leftInTheLastRound();
        leftOutOfSeveralLoops();
        wholeRoundsByLeavingAnInnerLoop();
        beginsUnits();
        longestIsTheLongestWalk();
        operandsThatAreNotNamed();
        Check.end();
    }

    private static void due(String what, long steps, String instructions) {
        CodeProof x = Programs.program(instructions);
        Check.due(what + ": prove()", x.prove(), 0);
        Check.due(what + ": steps(0)", x.steps(0), steps);
    }

    private static void noSuchUnit() {
        for (int unit : new int[] {-1, -2, 16, 17, 255, Check.LEAST, Check.MOST}) {
            Refusal.dueInAllStates("steps(" + unit + ")", x -> x.steps(unit));
        }
        for (int units = 1; units <= 16; units++) {
            CodeProof x = Programs.code(64);
            for (int unit = 0; unit < units; unit++) {
                x.unit(0, 0);
                for (int i = 0; i <= unit; i++) {
                    x.add(10, i + 1, 0, 0);
                }
            }
            Check.accepted(units + " units", x);
            for (int unit = 0; unit < units; unit++) {
                Check.due("steps(" + unit + ") of " + units, x.steps(unit), unit + 1);
            }
            Check.due("steps(" + units + ") of " + units, x.steps(units), CodeProof.BAD);
            Check.due("steps(-1) of " + units, x.steps(-1), CodeProof.BAD);
        }
        Refusal.due("steps(0) without a unit", () -> Refusal.proved(Programs.code(Refusal.CELLS)), x -> x.steps(0));
    }

    private static void notProved() {
        for (String state : new String[] {"code not proved", "refused code", "accepted code to which one came", "a new object"}) {
            Refusal.due("steps(0) (" + state + ")", Refusal.states().get(state), x -> x.steps(0));
            Refusal.due("steps(2) (" + state + ")", Refusal.states().get(state), x -> x.steps(2));
        }
        for (int how = 0; how < Programs.DISTURBANCES; how++) {
            CodeProof x = Programs.program("10 1, 18");
            x.prove();
            Check.due("accepted", x.steps(0), 2);
            Programs.disturb(x, how);
            Check.due("disturbance " + how, x.steps(0), CodeProof.BAD);
            Check.due("proved again", x.prove(), 0);
            Check.due("proved again: steps", x.steps(0), how == 3 ? CodeProof.BAD : 2);
        }
        CodeProof x = Programs.code(64, "10 20: 18", "10 0: 19");
        Check.fault("refused in its second unit", x, 2, 1, 0);
        Check.due("the first unit is right, but prove() did not answer 0", x.steps(0), CodeProof.BAD);
    }

    private static void instructionsAreOneStepEach() {
        due("no instruction", 0, "");
        due("LEAVE", 1, "18, 17 5 0");
        due("LEAVE behind two", 3, "17 5 0, 17 0 0, 18, 17 5 0");
        due("GO to the next one", 2, "10 1, 17 5 0");
        due("GO over one", 2, "10 2, 17 5 0, 17 5 0");
        due("GO to the end", 1, "10 2, 17 5 0");
        String all = "0, 2 0, 1 0, 3 0 0 1, 0, 4 0 0 1, 0, 0, 7 0, 8 0, 0, 0, 9, 11 14, 10 15, 17 0 0, 17 5 0";
        due("each other one", 17, all);
        CodeProof x = Programs.code(64, "1 60", "1 0: 5 0 0, 6 0 0");
        x.prove();
        Check.due("READ and WRITE", x.steps(1), 2);
        due("256 of them", 256, Programs.times(256, "17 5 0"));
    }

    private static void theLongerWay() {
        due("straight on", 5, "0, 11 4, 17 5 0, 17 5 0, 17 5 0");
        due("where UNLESS goes", 6, "0, 11 3, 18, 17 5 0, 17 5 0, 17 5 0, 17 5 0");
        due("both the same", 4, "0, 11 4, 17 5 0, 18, 17 5 0, 18");
        due("one longer by one, straight on", 5, "0, 11 5, 17 5 0, 17 5 0, 18, 17 5 0, 18");
        due("one longer by one, where UNLESS goes", 5, "0, 11 4, 17 5 0, 18, 17 5 0, 17 5 0, 18");
        due("UNLESS to the next one", 3, "0, 11 2, 17 5 0");
        due("UNLESS to the end", 3, "0, 11 3, 17 5 0");
        due("ways that meet, the first one longer", 8, "0, 11 5, 17 5 0, 17 5 0, 10 6, 17 5 0, 0, 11 9, 17 5 0");
        due("ways that meet, the second one longer", 7, "0, 11 3, 10 5, 17 5 0, 17 5 0, 0, 11 8, 17 5 0");
    }

    /** 12 and the last 13, and in each round 13, what is in the loop, and 14. */
    private static void loopsAsOftenAsTheySay() {
        for (int rounds : new int[] {0, 1, 2, 3, 10, 999999, 1000000}) {
            due("an empty loop " + rounds + " times", 2 + 2L * rounds, "12 9 " + rounds + ", 13 9 3, 14 1");
            due("a loop " + rounds + " times", 2 + 4L * rounds + 1,
                    "12 9 " + rounds + ", 13 9 5, 17 5 0, 17 5 0, 14 1, 17 5 0");
            due("the longer way in each round of " + rounds, 2 + 6L * rounds,
                    "12 9 " + rounds + ", 13 9 7, 0, 11 6, 17 5 0, 17 5 0, 14 1");
            due("a loop of " + rounds + ", or a way round it", Math.max(2 + 2 + 2L * rounds + 1, 2 + 5),
                    "0, 11 6, 12 9 " + rounds + ", 13 9 5, 14 3, 18, " + Programs.times(5, "17 5 0"));
        }
    }

    private static void loopsInLoops() {
        for (int outer = 0; outer < 4; outer++) {
            for (int inner = 0; inner < 4; inner++) {
                String counts = "12 9 " + outer + ", 13 9 7, 12 8 " + inner + ", 13 8 6, 17 5 0, 14 3, 14 1";
                due(outer + " by " + inner, 2 + outer * (4 + 3L * inner), counts);
                due(outer + ", then " + inner, 4 + 2L * outer + 3L * inner, "12 9 " + outer + ", 13 9 3, 14 1, 12 9 " + inner
                        + ", 13 9 7, 17 5 0, 14 4");
                for (int third = 0; third < 3; third++) {
                    String three = "12 9 " + outer + ", 13 9 9, 12 8 " + inner + ", 13 8 8, 12 7 " + third
                            + ", 13 7 7, 14 5, 14 3, 14 1";
                    due(outer + " by " + inner + " by " + third, 2 + outer * (4 + inner * (4 + 2L * third)), three);
                }
            }
        }
    }

    private static void leftByLeave() {
        for (int rounds = 0; rounds <= 3; rounds++) {
            due("always left, of " + rounds, rounds == 0 ? 2 + 3 : 3,
                    "12 9 " + rounds + ", 13 9 4, 18, 14 1, 17 5 0, 17 5 0, 17 5 0");
            due("left on one of two ways, of " + rounds, rounds == 0 ? 2 : Math.max(2 + 4 * rounds, 1 + 4 * (rounds - 1) + 4),
                    "12 9 " + rounds + ", 13 9 6, 0, 11 5, 18, 14 1");
        }
    }

    private static void leftByGo() {
        for (int rounds = 0; rounds <= 3; rounds++) {
            due("always left, of " + rounds, rounds == 0 ? 2 + 4 : 3 + 1,
                    "12 9 " + rounds + ", 13 9 4, 10 7, 14 1, 17 5 0, 17 5 0, 17 5 0, 17 5 0");
            due("left to where the 13 goes, of " + rounds, rounds == 0 ? 2 + 1 : 3 + 1,
                    "12 9 " + rounds + ", 13 9 4, 10 4, 14 1, 17 5 0");
        }
    }

    /** A way that leaves the loop goes on to four blocks, one that does not ends right behind it. */
    private static void leftByUnless() {
        String behind = ", 13 9 5, 0, 11 6, 14 1, 18, 17 5 0, 17 5 0, 17 5 0, 17 5 0";
        due("no round to leave in", 3, "12 9 0" + behind);
        for (int rounds = 1; rounds <= 5; rounds++) {
            due("left in the last of " + rounds, 1 + 4 * (rounds - 1) + 3 + 4, "12 9 " + rounds + behind);
        }
        due("left in the last of a million", 1 + 4L * 999999 + 3 + 4, "12 9 1000000" + behind);
        String longer = ", 13 9 7, 0, 11 8, 17 5 0, 17 5 0, 14 1, 10 9, 17 5 0";
        for (int rounds = 1; rounds <= 5; rounds++) {
            due("not left at all, of " + rounds, 2 + 6 * rounds + 1, "12 9 " + rounds + longer);
        }
    }

    /** Only where the way out is longer than the rest of the last round and what comes behind is it taken. */
    private static void leftInTheLastRound() {
        for (int out = 0; out <= 8; out++) {
            String code = "12 9 3, 13 9 7, 0, 11 8, 17 5 0, 17 5 0, 14 1, 18, " + Programs.times(out, "17 5 0");
            long whole = 2 + 6 * 3 + 1;
            long left = 1 + 6 * 2 + 3 + out;
            due("a way out of " + out, Math.max(whole, left), code);
        }
    }

    private static void leftOutOfSeveralLoops() {
        String code = "12 9 3, 13 9 9, 12 8 2, 13 8 7, 0, 11 10, 14 3, 10 8, 14 1, 18, " + Programs.times(7, "17 5 0");
        // Twice the outer round: 13, 12, two inner ones of 4, 13, GO, 14; then 13, 12, one of 4, 13, PUSH, UNLESS; then 7.
        due("in the last inner round of the last outer one", 1 + 2 * 13 + 2 + 4 + 3 + 7, code);
        due("no inner round", 2 + 3 * 5 + 1, code.replace("12 8 2", "12 8 0"));
        due("no outer round", 2 + 1, code.replace("12 9 3", "12 9 0"));
        due("one round each", 1 + 2 + 3 + 7, code.replace("12 8 2", "12 8 1").replace("12 9 3", "12 9 1"));
        due("LEAVE in the inner loop", 1 + 2 + 2, "12 9 3, 13 9 7, 12 8 2, 13 8 6, 18, 14 3, 14 1");
        due("LEAVE in an inner loop of none", 2 + 3 * 4, "12 9 3, 13 9 7, 12 8 0, 13 8 6, 18, 14 3, 14 1");
    }

    private static void wholeRoundsByLeavingAnInnerLoop() {
        due("an inner loop always left, within the outer one", 2 + 3 * 6,
                "12 9 3, 13 9 8, 12 8 9, 13 8 6, 10 6, 14 3, 17 5 0, 14 1");
        due("an inner loop left to the outer one's last", 2 + 3 * 5,
                "12 9 3, 13 9 8, 12 8 9, 13 8 6, 10 7, 14 3, 17 5 0, 14 1");
        due("the inner loop may be left with more behind", 2 + 2 * (2 + 2 * 4 + 3 + 3 + 1),
                "12 9 2, 13 9 12, 12 8 3, 13 8 7, 0, 11 8, 14 3, 10 11, 17 5 0, 17 5 0, 17 5 0, 14 1");
    }

    private static void beginsUnits() {
        CodeProof x = Programs.code(64, "3 -1: 17 5 0, 17 5 0, 17 5 0", "4 60: 15 0 0, 17 5 0", "0 50",
                "20 0: 16 1, 12 19 10, 13 19 5, 15 0 10, 14 2, 16 2");
        Check.accepted("units in units", x);
        Check.due("steps(0)", x.steps(0), 3);
        Check.due("steps(1), ENTER being one and 3", x.steps(1), 5);
        Check.due("steps(2)", x.steps(2), 0);
        Check.due("steps(3), CALL being one and 5, and one and 0", x.steps(3), 6 + 2 + 10 * 6 + 1);
        x = Programs.code(64, "3 -1: 0, 11 4, 17 5 0, 17 5 0", "10 0: 0, 11 3, 15 0 0, 17 5 0");
        Check.accepted("the longest way of each", x);
        Check.due("the longest way of each: steps(1)", x.steps(1), 2 + 5 + 1);
    }

    /** No choice of bits takes more steps than steps() says, and one takes as many. */
    private static void longestIsTheLongestWalk() {
        String[] codes = {"12 9 3, 13 9 5, 0, 11 6, 14 1, 18, 17 5 0, 17 5 0, 17 5 0, 17 5 0",
            "12 9 2, 13 9 12, 12 8 3, 13 8 7, 0, 11 8, 14 3, 10 11, 17 5 0, 17 5 0, 17 5 0, 14 1",
            "0, 11 4, 17 5 0, 10 6, 17 5 0, 17 5 0, 0, 11 9, 17 5 0",
            "12 9 4, 13 9 9, 0, 11 6, 17 5 0, 17 5 0, 0, 11 10, 14 1, 18, 17 5 0, 17 5 0"};
        for (String code : codes) {
            CodeProof x = Programs.program(code);
            Check.due(code + ": prove()", x.prove(), 0);
            int most = 0;
            for (int bits = 0; bits < 256; bits++) {
                most = Math.max(most, x.walk(bits));
            }
            Check.due(code + ": steps(0)", x.steps(0), most);
        }
    }

    /** Operands that an instruction has no use for change no answer; here each is one that another instruction would use. */
    private static void operandsThatAreNotNamed() {
        String code = "0%%%, 11 4%%, 17 5 0%, 10 5%%, 17 5 3%, 12 9 3%, 13 9 14%, 0%%%, 8 3%%, 11 12%%, 0%%%, 2 0%%, 17 5 0%,"
                + " 14 6%%, 1 0%%, 0%%%, 0%%%, 9%%%, 3 0% 2, 2 1%%, 0%%%, 11 25%%, 0%%%, 0%%%, 4 0% 2, 18%%%";
        due("b of UNLESS is no place to go to", 3, "0, 11 3 4 4, 18, 18, 17 5 0, 17 5 0, 17 5 0");
        due("b of GO is none either", 2, "10 2 3 3, 18, 18, 17 5 0, 17 5 0, 17 5 0");
        due("a of LEAVE is none either", 1, "18 2 2 2, 18, 17 5 0, 17 5 0, 17 5 0");
        CodeProof plain = Programs.program(code.replace("%", " 0"));
        Check.accepted("operands of 0", plain);
        for (int any : new int[] {1, 2, 5, 7, 9, 14, 25, 26, -1, Check.LEAST, Check.MOST}) {
            CodeProof x = Programs.program(code.replace("%", " " + any));
            Check.accepted("operands of " + any, x);
            Check.due("operands of " + any + ": steps(0)", x.steps(0), plain.steps(0));
            Check.due("operands of " + any + ": depth(0)", x.depth(0), plain.depth(0));
            for (int bits = 0; bits < 32; bits++) {
                Check.due("operands of " + any + ": walk(" + bits + ")", x.walk(bits), plain.walk(bits));
            }
        }
    }
}
