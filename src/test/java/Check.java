/** Counts answers that are not the ones that are due, and ends a test with exit code 1 if there was one. */
final class Check {
    static final int LEAST = Integer.MIN_VALUE;
    static final int MOST = Integer.MAX_VALUE;

    private static int wrong = 0;
    private static int asked = 0;

    private Check() {
    }

    static void due(String what, long got, long want) {
        asked++;
        if (got != want) {
            wrong++;
            System.out.println(what + " answered " + got + ", due is " + want);
        }
    }

    static void same(String what, String got, String want) {
        asked++;
        if (!got.equals(want)) {
            wrong++;
            System.out.println(what + " is told as " + got + ", due is " + want);
        }
    }

    static void holds(String what, boolean is) {
        asked++;
        if (!is) {
            wrong++;
            System.out.println("does not hold: " + what);
        }
    }

    /** The code's first fault; faults 1 and 11 are at instruction -1. */
    static void fault(String what, CodeProof x, int fault, int unit, int instruction) {
        due(what + ": prove()", x.prove(), fault);
        due(what + ": count(0)", x.count(0), fault);
        due(what + ": count(1)", x.count(1), unit);
        due(what + ": count(2)", x.count(2), instruction);
        dueOfAnswers(what, x, fault != 0);
    }

    static void accepted(String what, CodeProof x) {
        fault(what, x, 0, -1, -1);
    }

    private static void dueOfAnswers(String what, CodeProof x, boolean refused) {
        boolean none = refused || x.count(3) == 0;
        due(what + ": steps(0) is BAD", x.steps(0) == CodeProof.BAD ? 1 : 0, none ? 1 : 0);
        due(what + ": depth(0) is BAD", x.depth(0) == CodeProof.BAD ? 1 : 0, none ? 1 : 0);
        due(what + ": walk(0) is BAD", x.walk(0) == CodeProof.BAD ? 1 : 0, none ? 1 : 0);
    }

    static int wrongs() {
        return wrong;
    }

    static void end() {
        System.out.println(wrong == 0 ? asked + " answers are as due" : wrong + " of " + asked + " are not as due");
        if (wrong != 0) {
            System.exit(1);
        }
    }
}
