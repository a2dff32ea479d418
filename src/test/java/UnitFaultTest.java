/** Promise 6, fault 3: "of 5, 6, 15, 16: unit a is not one before this one, or has no place (15: has one)". */
public final class UnitFaultTest {
    private static final int[] NUMBERS = {5, 6, 15, 16};

    public static void main(String[] args) {
        unitsBefore();
        unitsThatAreNone();
        theFirstUnitHasNoneBefore();
        theUnitItself();
        otherInstructionsNameNone();
        Check.end();
    }

    /** The instruction between what it takes and what takes it, so that nothing else is wrong. */
    private static String whole(int number, int a) {
        return (number == 6 ? "0, 6 " : number + " ") + a + " 0" + (number == 5 ? ", 2 0" : "");
    }

    private static void due(String what, CodeProof x, int unit, int number, boolean right) {
        Check.fault(what, x, right ? 0 : 3, right ? -1 : unit, right ? -1 : number == 6 ? 1 : 0);
    }

    /** 15 units before the program, with a place and without in turn. */
    private static void unitsBefore() {
        for (int first = 0; first <= 1; first++) {
            for (int number : NUMBERS) {
                for (int a = 0; a < 15; a++) {
                    CodeProof x = Programs.code(64);
                    for (int unit = 0; unit < 15; unit++) {
                        x.unit(1, unit % 2 == first ? 40 + unit : -1);
                    }
                    Programs.addUnit(x, "10 0: " + whole(number, a));
                    boolean placed = a % 2 == first;
                    due(number + " of unit " + a, x, 15, number, placed != (number == 15));
                }
            }
        }
    }

    /** The instruction in unit 2 of four, all others of which have a place, or none have. */
    private static void unitsThatAreNone() {
        for (int number : NUMBERS) {
            for (int a : new int[] {-1, -2, 0, 1, 2, 3, 4, 5, 15, 16, Check.LEAST, Check.MOST}) {
                boolean before = a == 0 || a == 1;
                CodeProof x = Programs.code(64, "1 60", "1 61", "1 50: " + whole(number, a), "1 40", "10 0");
                due(number + " of unit " + a + " with a place", x, 2, number, before && number != 15);
                x = Programs.code(64, "1 -1", "1 -1", "1 -1: " + whole(number, a), "1 -1", "10 0");
                due(number + " of unit " + a + " without a place", x, 2, number, before && number == 15);
            }
        }
    }

    private static void theFirstUnitHasNoneBefore() {
        for (int number : NUMBERS) {
            for (int a : new int[] {-1, 0, 1, 2}) {
                due(number + " of unit " + a + " in the only unit", Programs.code(64, "10 0: " + whole(number, a)), 0, number,
                        false);
                due(number + " of unit " + a + " in the first unit",
                        Programs.code(64, "5 10: " + whole(number, a), "5 20", "5 0"), 0, number, false);
            }
        }
    }

    private static void theUnitItself() {
        for (int number : NUMBERS) {
            String place = number == 15 ? "-1" : "50";
            CodeProof x = Programs.code(64, "0 " + place, "1 " + place + ": " + whole(number, 1), "10 0");
            due(number + " of itself", x, 1, number, false);
            x = Programs.code(64, "0 " + place, "1 " + place, "10 0: " + whole(number, 2));
            due(number + " of the program itself", x, 2, number, false);
            x = Programs.code(64, "0 " + place, "1 " + place, "10 0: " + whole(number, 1));
            due(number + " of the one right before", x, 2, number, true);
        }
    }

    private static void otherInstructionsNameNone() {
        Check.accepted("operands like units", Programs.program("0 7, 2 3, 17 5 3, 10 4, 0 9, 8 7, 2 5"));
    }
}
