/** Makes code for tests from written rows: a number and up to three operands, those that are left out being 0. */
final class Programs {
    private Programs() {
    }

    /** A program with a frame of 10 cells. */
    static CodeProof program(int[]... instructions) {
        CodeProof x = new CodeProof();
        x.unit(10, 0);
        addAll(x, instructions);
        return x;
    }

    static void addAll(CodeProof x, int[]... instructions) {
        for (int[] it : instructions) {
            x.add(it[0], it.length > 1 ? it[1] : 0, it.length > 2 ? it[2] : 0, it.length > 3 ? it[3] : 0);
        }
    }
}
