/** Promise 6, fault 11 (at -1): the steps of a unit "are above 1,000,000,000". */
public final class StepsFaultTest {
    private static final int MOST = 1000000000;

    public static void main(String[] args) {
        aBillion();
        aBillionInTheFirstUnit();
        aBillionByUnits();
        productsThatWrap();
        sumsOfUnitsThatWrap();
        nestsOfAnyDepth();
        tooManyThatAreNeverTaken();
        tooManyThatAreLeft();
        Check.end();
    }

    /** 2 + 999 * 1,000,000 + 2 + 2 * 499,996 = 999,999,996 steps. */
    private static final String NEARLY = "12 9 999, 13 9 6, 12 8 499998, 13 8 5, 14 3, 14 1, 12 9 499996, 13 9 9, 14 7";

    private static void aBillion() {
        for (int more = 0; more <= 8; more++) {
            CodeProof x = Programs.program(NEARLY + ", " + Programs.times(more, "17 5 0"));
            dueSteps(x, 0, 999999996L + more);
        }
    }

    private static void dueSteps(CodeProof x, int unit, long steps) {
        boolean right = steps <= MOST;
        Check.fault(steps + " steps", x, right ? 0 : 11, right ? -1 : unit, -1);
        Check.due(steps + " steps: steps(" + unit + ")", x.steps(unit), right ? steps : CodeProof.BAD);
    }

    private static void aBillionInTheFirstUnit() {
        for (int more = 3; more <= 5; more++) {
            CodeProof x = Programs.code(64, "10 20: " + NEARLY + ", " + Programs.times(more, "17 5 0"), "10 0: 99");
            boolean right = more <= 4;
            Check.fault("before the next unit", x, right ? 2 : 11, right ? 1 : 0, right ? 0 : -1);
        }
        CodeProof x = Programs.code(64, "10 20: " + NEARLY + ", " + Programs.times(4, "17 5 0"), "10 0: 18");
        dueSteps(x, 0, MOST);
        Check.due("the program's own", x.steps(1), 1);
    }

    /** The steps of a unit, and one more to begin it. */
    private static void aBillionByUnits() {
        String[] kinds = {"20: ", "-1: "};
        String[] begins = {"16 0", "15 0 0"};
        for (int kind = 0; kind < 2; kind++) {
            for (int more = 2; more <= 5; more++) {
                String unit = "10 " + kinds[kind] + NEARLY + ", " + Programs.times(more, "17 5 0");
                boolean own = more <= 4;
                boolean begun = more <= 3;
                CodeProof x = Programs.code(64, unit, "10 0: " + begins[kind]);
                Check.fault("a unit of a billion less " + (4 - more) + " begun", x, begun ? 0 : 11, begun ? -1 : own ? 1 : 0, -1);
                Check.due("its steps", x.steps(1), begun ? 999999996 + more + 1 : CodeProof.BAD);
            }
        }
        // 2 + 1000 * (13, 16, 999,997 steps, 14) = 1,000,000,002; one round less: 999,000,002.
        String million = "1 40: 12 0 499997, 13 0 3, 14 1, 10 4";
        CodeProof x = Programs.code(64, million, "10 0: 12 9 1000, 13 9 4, 16 0, 14 1");
        Check.fault("a thousand rounds of a million", x, 11, 1, -1);
        x.change(1, 0, 12, 9, 999, 0);
        dueSteps(x, 1, 999000002L);
        Check.due("the unit's own", x.steps(0), 999997);
    }

    /** Rounds by rounds near powers of two, where an int, or a long, would have come round to a small number. */
    private static void productsThatWrap() {
        int[] rounds = {1000, 2048, 16384, 32767, 32768, 46341, 65535, 65536, 131072, 262144, 524288, 1000000};
        for (int outer : rounds) {
            for (int inner : rounds) {
                CodeProof x = Programs.program("12 9 " + outer + ", 13 9 6, 12 8 " + inner + ", 13 8 5, 14 3, 14 1");
                dueSteps(x, 0, 2 + outer * (4 + 2L * inner));
            }
        }
        for (int inner : rounds) {
            String nest = "12 9 65536, 13 9 9, 12 8 65536, 13 8 8, 12 7 " + inner + ", 13 7 7, 14 5, 14 3, 14 1";
            Check.fault("65536 by 65536 by " + inner, Programs.program(nest), 11, 0, -1);
        }
    }

    /** Each unit begins the one before it some times; a sum in ints would have come round. */
    private static void sumsOfUnitsThatWrap() {
        for (int times = 2; times <= 12; times++) {
            CodeProof x = Programs.code(64, "10 -1: 12 9 499999, 13 9 3, 14 1");
            long steps = 1000000;
            int unit = 0;
            while (steps <= MOST && unit < 14) {
                Programs.addUnit(x, "10 -1: " + Programs.times(times, "15 " + unit + " 0"));
                steps = times * (steps + 1);
                unit++;
            }
            Programs.addUnit(x, "10 0");
            Check.fault(times + " times the unit before", x, 11, unit, -1);
        }
        String billion = "10 -1: " + NEARLY + ", " + Programs.times(4, "17 5 0");
        for (int many = 1; many <= 12; many++) {
            CodeProof x = Programs.code(64, billion, "10 0: " + Programs.times(many, "15 0 0"));
            Check.fault(many + " times a billion", x, 11, 1, -1);
        }
    }

    private static String nest(int loops, int rounds, int outermost) {
        StringBuilder text = new StringBuilder();
        for (int k = 0; k < loops; k++) {
            text.append("12 ").append(k).append(' ').append(k == 0 ? outermost : rounds).append(", ");
            text.append("13 ").append(k).append(' ').append(3 * loops - k).append(", ");
        }
        for (int k = loops - 1; k >= 0; k--) {
            text.append("14 ").append(2 * k + 1).append(", ");
        }
        return text.toString();
    }

    private static void nestsOfAnyDepth() {
        for (int loops = 1; loops <= 85; loops++) {
            CodeProof x = Programs.code(4096, "4096 0: " + nest(loops, 1000000, 1000000));
            boolean right = loops == 1;
            Check.fault(loops + " loops of a million", x, right ? 0 : 11, right ? -1 : 0, -1);
            x = Programs.code(4096, "4096 0: " + nest(loops, 65536, 65536));
            Check.fault(loops + " loops of 65536", x, right ? 0 : 11, right ? -1 : 0, -1);
            x = Programs.code(4096, "4096 0: " + nest(loops, 1, 1));
            dueSteps(x, 0, 4L * loops);
            x = Programs.code(4096, "4096 0: " + nest(loops, 2, 2));
            dueSteps(x, 0, loops > 40 ? Long.MAX_VALUE : stepsOfNest(loops, 2));
        }
    }

    /** From the inside on: 12 and the last 13, and each round with its 13 and 14. */
    private static long stepsOfNest(int loops, int rounds) {
        long steps = 0;
        for (int k = 0; k < loops; k++) {
            steps = 2 + rounds * (steps + 2);
        }
        return steps;
    }

    private static void tooManyThatAreNeverTaken() {
        for (int loops = 2; loops <= 85; loops++) {
            CodeProof x = Programs.code(4096, "4096 0: " + nest(loops, 1000000, 0));
            dueSteps(x, 0, 2);
        }
        CodeProof x = Programs.program("18, 12 9 1000000, 13 9 7, 12 8 1000000, 13 8 6, 14 4, 14 2");
        dueSteps(x, 0, 1);
        x = Programs.program("10 7, 12 9 1000000, 13 9 7, 12 8 1000000, 13 8 6, 14 4, 14 2, 17 5 0");
        dueSteps(x, 0, 2);
        x = Programs.program("0, 11 8, 12 9 1000000, 13 9 8, 12 8 1000000, 13 8 7, 14 5, 14 3, 17 5 0");
        Check.fault("too many on one of two ways", x, 11, 0, -1);
    }

    /** A loop of a million that each way leaves in its first round, around one of a million. */
    private static void tooManyThatAreLeft() {
        CodeProof x = Programs.program("12 9 1000000, 13 9 7, 12 8 1000000, 13 8 5, 14 3, 18, 14 1");
        dueSteps(x, 0, 2 + 2 + 2 * 1000000 + 1);
        x = Programs.program("12 9 1000000, 13 9 7, 18, 12 8 1000000, 13 8 6, 14 4, 14 1");
        dueSteps(x, 0, 3);
        x = Programs.program("12 9 1000000, 13 9 8, 12 8 1000000, 13 8 7, 10 7, 17 5 0, 14 3, 14 1");
        dueSteps(x, 0, 2 + 1000000 * 5L);
    }
}
