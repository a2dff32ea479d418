/**
 * Promise 6, fault 4: "a cell that is not in the frame: of 1, 2, 12, 13 a; of 3, 4 a to a + c - 1; of 5, 6 b in the frame of
 * unit a; of 15 b on, as many as the frame of unit a has (b is 0 or more also if these are none); of 17 b on".
 */
public final class CellFaultTest {
    private static final int[] FRAMES = {0, 1, 2, 10, 4095, 4096};

    public static void main(String[] args) {
        loadAndStore();
        countAndNext();
        takeAndPut();
        takeAndPutWhoseSumsWrap();
        readAndWrite();
        enter();
        enterOfNoCells();
        block();
        Check.end();
    }

    private static void due(String what, boolean right, CodeProof x, int unit, int at) {
        Check.fault(what, x, right ? 0 : 4, right ? -1 : unit, right ? -1 : at);
    }

    private static CodeProof inFrame(int frame, String instructions) {
        return Programs.code(4096, frame + " 0: " + instructions);
    }

    private static int[] cellsRound(int frame) {
        return new int[] {Check.LEAST, -frame, -2, -1, 0, 1, frame - 2, frame - 1, frame, frame + 1, Check.MOST - 1, Check.MOST};
    }

    private static void loadAndStore() {
        for (int frame : FRAMES) {
            for (int cell : cellsRound(frame)) {
                boolean right = cell >= 0 && cell < frame;
                // What takes the number has no cell of its own, so that no other instruction can be wrong.
                due("LOAD " + cell + " of " + frame, right, inFrame(frame, "1 " + cell + ", 11 2"), 0, 0);
                due("STORE " + cell + " of " + frame, right, inFrame(frame, "0, 2 " + cell), 0, 1);
            }
        }
    }

    private static void countAndNext() {
        for (int frame : FRAMES) {
            for (int cell : cellsRound(frame)) {
                boolean right = cell >= 0 && cell < frame;
                String loop = "12 " + cell + " 1, 13 " + cell + " 3, 14 1";
                due("COUNT " + cell + " of " + frame, right, inFrame(frame, loop), 0, 0);
                if (!right) {
                    due("NEXT " + cell + " of " + frame, false, inFrame(frame, "13 " + cell + " 2, 14 0"), 0, 0);
                }
            }
            if (frame > 0) {
                // Where the cell is right, it is the loop that is wrong.
                Check.fault("NEXT of the last of " + frame, inFrame(frame, "13 " + (frame - 1) + " 2, 14 0"), 7, 0, 0);
                Check.fault("NEXT of the first of " + frame, inFrame(frame, "13 0 2, 14 0"), 7, 0, 0);
            }
        }
    }

    private static void takeAndPut() {
        for (int frame : new int[] {1, 2, 5, 4096}) {
            for (int first : cellsRound(frame)) {
                for (int many : new int[] {1, 2, 3, frame - 1, frame, frame + 1}) {
                    if (many >= 1) {
                        boolean right = first >= 0 && (long) first + many <= frame;
                        dueTakeAndPut(frame, first, many, right);
                    }
                }
            }
        }
        dueTakeAndPut(0, 0, 1, false);
    }

    private static void dueTakeAndPut(int frame, int first, int many, boolean right) {
        String cells = first + " 0 " + many;
        due("TAKE " + cells + " of " + frame, right, inFrame(frame, "0, 3 " + cells + ", 11 3"), 0, 1);
        due("PUT " + cells + " of " + frame, right, inFrame(frame, "0, 0, 4 " + cells), 0, 2);
    }

    /** a + c and a + c - 1 pass the greatest int, or just do not. */
    private static void takeAndPutWhoseSumsWrap() {
        for (int frame : new int[] {1, 10, 4096}) {
            for (int many : new int[] {Check.MOST, Check.MOST - 1, Check.MOST - 9, Check.MOST / 2 + 1}) {
                for (int first : new int[] {0, 1, 2, 9, 10, 11, Check.MOST / 2, Check.MOST / 2 + 1, Check.MOST - 1, Check.MOST,
                    Check.LEAST, Check.LEAST + 1, -1}) {
                    dueTakeAndPut(frame, first, many, false);
                }
            }
            for (int many : new int[] {1, 2, 3, 10}) {
                for (int first = Check.MOST; first > Check.MOST - 12; first--) {
                    dueTakeAndPut(frame, first, many, false);
                }
            }
        }
    }

    private static void readAndWrite() {
        for (int own : new int[] {0, 1, 30}) {
            for (int frame : new int[] {1, 2, 10}) {
                for (int cell : cellsRound(frame)) {
                    boolean right = cell >= 0 && cell < frame;
                    String at = "0 " + cell;
                    CodeProof x = Programs.code(64, frame + " 50", own + " 0: 5 " + at + ", 11 2");
                    due("READ of cell " + cell + " of " + frame, right, x, 1, 0);
                    x = Programs.code(64, frame + " 50", own + " 0: 0, 6 " + at);
                    due("WRITE of cell " + cell + " of " + frame, right, x, 1, 1);
                }
            }
        }
        due("READ of a unit without cells", false, Programs.code(64, "0 50", "9 0: 5 0 0, 11 2"), 1, 0);
        due("WRITE to a unit without cells", false, Programs.code(64, "0 50", "9 0: 0, 6 0 0"), 1, 1);
        for (int a = 0; a < 3; a++) {
            CodeProof x = Programs.code(64, "1 40", "2 50", "3 60", "9 0: 5 " + a + " " + a + ", 11 2");
            due("READ of the last cell of unit " + a, true, x, 3, 0);
            x = Programs.code(64, "1 40", "2 50", "3 60", "9 0: 5 " + a + " " + (a + 1) + ", 11 2");
            due("READ behind the last cell of unit " + a, false, x, 3, 0);
        }
    }

    private static void enter() {
        for (int own : new int[] {0, 1, 2, 10, 4096}) {
            for (int frame : new int[] {1, 2, 10, 11, 4095, 4096}) {
                for (int b : new int[] {Check.LEAST, -frame, -1, 0, 1, own - frame - 1, own - frame, own - frame + 1, own,
                    Check.MOST - frame, Check.MOST - frame + 1, Check.MOST}) {
                    boolean right = b >= 0 && (long) b + frame <= own;
                    CodeProof x = Programs.code(4096, frame + " -1", own + " 0: 15 0 " + b);
                    due("ENTER of " + frame + " cells at " + b + " of " + own, right, x, 1, 0);
                }
            }
        }
        due("ENTER of the second unit", true, Programs.code(64, "9 -1", "2 -1", "9 0: 15 1 7"), 2, 0);
        due("ENTER of the second unit, one on", false, Programs.code(64, "9 -1", "2 -1", "9 0: 15 1 8"), 2, 0);
    }

    private static void enterOfNoCells() {
        for (int own : new int[] {0, 1, 10}) {
            for (int b : new int[] {-1, -2, Check.LEAST}) {
                CodeProof x = Programs.code(64, "0 -1", own + " 0: 15 0 " + b);
                due("ENTER of no cells at " + b + " of " + own, false, x, 1, 0);
            }
            for (int b : new int[] {0, 1, own - 1, own, own + 1, Check.MOST}) {
                if (b >= 0) {
                    CodeProof x = Programs.code(64, "0 -1", own + " 0: 15 0 " + b);
                    due("ENTER of no cells at " + b + " of " + own, true, x, 1, 0);
                }
            }
        }
    }

    private static void block() {
        for (int kind = 0; kind <= 8; kind++) {
            int cells = kind <= 4 ? 6 : 3;
            for (int frame : new int[] {0, cells - 1, cells, cells + 1, 10, 4096}) {
                for (int b : new int[] {Check.LEAST, -cells, -1, 0, 1, frame - cells - 1, frame - cells, frame - cells + 1,
                    frame - 1, frame, Check.MOST - cells, Check.MOST - cells + 1, Check.MOST - 1, Check.MOST}) {
                    boolean right = b >= 0 && (long) b + cells <= frame;
                    due("BLOCK " + kind + " at " + b + " of " + frame, right, inFrame(frame, "17 " + kind + " " + b), 0, 0);
                }
            }
        }
    }
}
