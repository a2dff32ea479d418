/**
 * Makes code for tests from text. Instructions: "12 9 2, 13 9 3, 14 1", operands that are left out being 0. A unit: its
 * frame, its place, and its instructions, "10 0: 12 9 2, 13 9 3, 14 1".
 */
final class Programs {
    private Programs() {
    }

    /** A program with a frame of 10 cells, of which the tests keep 9, 8 and 7 for counters. */
    static CodeProof program(String instructions) {
        return code(64, "10 0: " + instructions);
    }

    static CodeProof code(int t, String... units) {
        CodeProof x = new CodeProof();
        x.begin(t);
        for (String unit : units) {
            addUnit(x, unit);
        }
        return x;
    }

    static void addUnit(CodeProof x, String unit) {
        String[] parts = unit.split(":");
        int[] frameAndPlace = numbers(parts[0]);
        x.unit(frameAndPlace[0], frameAndPlace[1]);
        if (parts.length > 1) {
            addAll(x, parts[1]);
        }
    }

    static void addAll(CodeProof x, String instructions) {
        for (String instruction : instructions.split(",")) {
            if (!instruction.isBlank()) {
                int[] it = numbers(instruction);
                x.add(it[0], it[1], it[2], it[3]);
            }
        }
    }

    static void change(CodeProof x, int unit, int i, String instruction) {
        int[] it = numbers(instruction);
        x.change(unit, i, it[0], it[1], it[2], it[3]);
    }

    /** The ways in which code comes or changes; the first instruction of the code must be "10 1", and stays so. */
    static final int DISTURBANCES = 4;

    static void disturb(CodeProof x, int how) {
        if (how == 0) {
            x.unit(0, 0);
        } else if (how == 1) {
            x.add(18, 0, 0, 0);
        } else if (how == 2) {
            x.change(0, 0, 10, 1, 0, 0);
        } else {
            x.begin(64);
        }
    }

    /** The same instructions so many times, each followed by a comma. */
    static String times(int many, String instructions) {
        return (instructions + ", ").repeat(Math.max(0, many));
    }

    private static int[] numbers(String text) {
        int[] numbers = new int[4];
        int many = 0;
        for (String number : text.trim().split(" +")) {
            numbers[many] = Integer.parseInt(number);
            many++;
        }
        return numbers;
    }
}
