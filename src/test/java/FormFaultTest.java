/**
 * Promise 6, fault 2: "a number that is none above; of 7, a is not 0 .. 24; of 8, a is not 0 .. 7; of 12, b is not
 * 0 .. 1,000,000; of 17, a is not 0 .. 8; of 3 and 4, c is below 1".
 */
public final class FormFaultTest {
    public static void main(String[] args) {
        numbers();
        two();
        one();
        count();
        block();
        takeAndPut();
        otherOperandsAreFree();
        Check.end();
    }

    /** Numbers before the instruction and what stores the rest behind it make it right but for itself. */
    private static void due(String what, boolean right, String before, String it, String behind) {
        CodeProof x = Programs.program(before + it + behind);
        int at = before.isEmpty() ? 0 : before.split(",").length - 1;
        Check.fault(what, x, right ? 0 : 2, right ? -1 : 0, right ? -1 : at);
    }

    private static void numbers() {
        for (int number : new int[] {-1, -2, 19, 20, 25, 127, 256, Check.LEAST, Check.MOST}) {
            due("number " + number, false, "", "" + number, "");
            due("number " + number + " behind others", false, "17 5 0, 18, ", "" + number, "");
            due("number " + number + " where nothing comes", false, "18, ", "" + number, ", 18");
        }
        String[] right = {"0, 2 0", "1 0, 2 0", "0, 2 0", "0, 3 0 0 1, 2 0", "0, 0, 4 0 0 1", "5 0 0, 2 0", "0, 6 0 0",
            "0, 0, 7 0, 2 0", "0, 8 0, 2 0", "0, 0, 0, 9, 2 0", "10 1", "0, 11 2", "12 9 1, 13 9 3, 14 1",
            "12 9 1, 13 9 3, 14 1", "12 9 1, 13 9 3, 14 1", "15 1 0", "16 0", "17 0 0", "18"};
        for (int number = 0; number <= 18; number++) {
            CodeProof x = Programs.code(64, "3 60", "3 -1", "10 0: " + right[number]);
            Check.accepted("number " + number, x);
        }
    }

    private static void two() {
        for (int a : new int[] {-1, -2, 25, 26, Check.LEAST, Check.MOST}) {
            due("TWO " + a, false, "0, 0, ", "7 " + a, ", 2 0");
        }
        for (int a = 0; a <= 24; a++) {
            due("TWO " + a, true, "0, 0, ", "7 " + a, ", 2 0");
        }
    }

    private static void one() {
        for (int a : new int[] {-1, -2, 8, 9, 24, Check.LEAST, Check.MOST}) {
            due("ONE " + a, false, "0, ", "8 " + a, ", 2 0");
        }
        for (int a = 0; a <= 7; a++) {
            due("ONE " + a, true, "0, ", "8 " + a, ", 2 0");
        }
    }

    private static void count() {
        for (int b : new int[] {-1, -2, 1000001, 1000002, Check.LEAST, Check.MOST}) {
            due("COUNT of " + b, false, "", "12 9 " + b, ", 13 9 3, 14 1");
        }
        for (int b : new int[] {0, 1, 2, 999999, 1000000}) {
            due("COUNT of " + b, true, "", "12 9 " + b, ", 13 9 3, 14 1");
        }
    }

    private static void block() {
        for (int a : new int[] {-1, -2, 9, 10, Check.LEAST, Check.MOST}) {
            due("BLOCK of kind " + a, false, "", "17 " + a + " 0", "");
        }
        for (int a = 0; a <= 8; a++) {
            due("BLOCK of kind " + a, true, "", "17 " + a + " 0", "");
        }
    }

    private static void takeAndPut() {
        for (int c : new int[] {0, -1, -2, Check.LEAST, Check.LEAST + 1}) {
            due("TAKE of " + c, false, "0, ", "3 0 0 " + c, ", 2 0");
            due("PUT of " + c, false, "0, 0, ", "4 0 0 " + c, "");
        }
        for (int c : new int[] {1, 2, 10}) {
            due("TAKE of " + c, true, "0, ", "3 0 0 " + c, ", 2 0");
            due("PUT of " + c, true, "0, 0, ", "4 0 0 " + c, "");
        }
    }

    /** The ranges are those of the operand that is named, of that number alone. */
    private static void otherOperandsAreFree() {
        for (int any : new int[] {-1, 25, 1000001, Check.LEAST, Check.MOST}) {
            String more = " " + any + " " + any;
            due("PUSH " + any, true, "", "0 " + any + more, ", 2 0");
            due("LOAD", true, "", "1 0" + more, ", 2 0");
            due("STORE", true, "0, ", "2 0" + more, "");
            due("TAKE", true, "0, ", "3 0 " + any + " 1", ", 2 0");
            due("PUT", true, "0, 0, ", "4 0 " + any + " 1", "");
            due("TWO", true, "0, 0, ", "7 24" + more, ", 2 0");
            due("ONE", true, "0, ", "8 7" + more, ", 2 0");
            due("CHOOSE", true, "0, 0, 0, ", "9 " + any + more, ", 2 0");
            due("GO", true, "", "10 1" + more, "");
            due("UNLESS", true, "0, ", "11 2" + more, "");
            due("COUNT", true, "", "12 9 1 " + any, ", 13 9 3, 14 1");
            due("NEXT", true, "12 9 1, ", "13 9 3 " + any, ", 14 1");
            due("BACK", true, "12 9 1, 13 9 3, ", "14 1" + more, "");
            due("BLOCK", true, "", "17 8 0 " + any, "");
            due("LEAVE", true, "", "18 " + any + more, "");
            Check.accepted("READ", Programs.code(64, "3 60", "9 0: 5 0 2 " + any + ", 2 0"));
            Check.accepted("WRITE", Programs.code(64, "3 60", "9 0: 0, 6 0 2 " + any));
            Check.accepted("ENTER", Programs.code(64, "3 -1", "9 0: 15 0 6 " + any));
            Check.accepted("CALL", Programs.code(64, "3 60", "9 0: 16 0" + more));
        }
    }
}
