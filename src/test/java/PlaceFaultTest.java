/**
 * Promise 6, fault 1 (at -1): "if the unit is the program and its place is not 0, or has a place and cells from there on
 * that are not all below T, or one of them is a cell of another unit before that has a place".
 */
public final class PlaceFaultTest {
    public static void main(String[] args) {
        programIsNotAtZero();
        onlyTheLastUnitIsTheProgram();
        cellsNotBelowT();
        noCellsAnywhere();
        cellsOfAnotherUnit();
        cellsOfEachUnitBefore();
        unitsWithoutAPlace();
        unitsBehindAreNotLookedAt();
        Check.end();
    }

    private static void due(String what, int unit, int t, String... units) {
        Check.fault(what, Programs.code(t, units), unit < 0 ? 0 : 1, unit, -1);
    }

    private static void programIsNotAtZero() {
        for (int frame : new int[] {0, 1, 5}) {
            due("a program at 0", -1, 64, frame + " 0");
            for (int place : new int[] {-1, 1, 2, 59, 4095}) {
                due("a program of " + frame + " cells at " + place, 0, 64, frame + " " + place);
                due("behind a unit, at " + place, 1, 64, "2 60", frame + " " + place);
            }
        }
    }

    private static void onlyTheLastUnitIsTheProgram() {
        for (int place : new int[] {-1, 1, 59}) {
            CodeProof x = Programs.code(64, "1 " + place);
            Check.fault("a program at " + place, x, 1, 0, -1);
            x.unit(1, 0);
            Check.accepted("not the program any more", x);
            x.unit(0, 2);
            Check.fault("the new one is", x, 1, 2, -1);
        }
    }

    private static void cellsNotBelowT() {
        for (int t : new int[] {1, 2, 10, 64, 4095, 4096}) {
            for (int place = Math.max(1, t - 3); place < t; place++) {
                for (int frame = 1; frame <= 5; frame++) {
                    due(frame + " cells at " + place + " of " + t, place + frame <= t ? -1 : 0, t, frame + " " + place, "0 0");
                }
            }
            for (int frame = Math.max(0, t - 1); frame <= Math.min(t + 1, 4096); frame++) {
                due("a program of " + frame + " cells of " + t, frame <= t ? -1 : 0, t, frame + " 0");
            }
        }
        for (int place : new int[] {10, 11, 64, 4094, 4095}) {
            due("a unit at " + place + " of 10", 0, 10, "1 " + place, "0 0");
        }
        due("the last cell of all", -1, 4096, "1 4095", "4095 0");
        due("one behind the last cell of all", 0, 4096, "2 4095", "0 0");
        due("the most cells at the last place", 0, 4096, "4096 4095", "0 0");
        due("the most cells at 1", 0, 4096, "4096 1", "0 0");
        due("the most cells at 0", -1, 4096, "4096 0");
        due("a unit behind a right one", 1, 10, "2 8", "2 9", "0 0");
    }

    /** None of no cells is beyond T or another unit's. */
    private static void noCellsAnywhere() {
        for (int place : new int[] {9, 10, 11, 4095}) {
            due("no cells at " + place + " of 10", -1, 10, "0 " + place, "6 0");
        }
        due("no cells amid the program's", -1, 10, "0 3", "6 0");
        due("no cells amid a unit's before", -1, 10, "4 6", "0 7", "6 0");
        due("no cells at another one's first", -1, 10, "4 6", "0 6", "6 0");
        due("no cells twice", -1, 10, "0 3", "0 3", "10 0");
        due("a program without cells at another one's place", -1, 10, "4 0", "0 0");
    }

    /** A unit at 10 to 14, and one of one to eleven cells that comes up to it, over it and behind it. */
    private static void cellsOfAnotherUnit() {
        for (int place = 5; place <= 18; place++) {
            for (int frame = 1; frame <= 11; frame++) {
                boolean shares = place <= 14 && place + frame - 1 >= 10;
                due(frame + " cells at " + place, shares ? 1 : -1, 64, "5 10", frame + " " + place, "0 0");
            }
        }
        due("a program up to a unit", -1, 64, "5 10", "10 0");
        due("a program into a unit", 1, 64, "5 10", "11 0");
        due("a program over a unit", 1, 64, "5 10", "64 0");
        due("a program on a unit", 1, 64, "5 0", "5 0");
        due("a program in a unit", 1, 64, "5 0", "1 0");
    }

    private static void cellsOfEachUnitBefore() {
        for (int shared = 0; shared < 4; shared++) {
            int first = 10 * (shared + 1);
            dueBehindFour("the first cell of unit " + shared, first - 1, true);
            dueBehindFour("the last cell of unit " + shared, first + 1, true);
            dueBehindFour("right before unit " + shared, first - 2, false);
            dueBehindFour("right behind unit " + shared, first + 2, false);
        }
        String[] units = new String[16];
        for (int unit = 0; unit < 15; unit++) {
            units[unit] = "4 " + 4 * (unit + 1);
        }
        units[15] = "4 0";
        due("16 units on all cells", -1, 64, units);
        units[15] = "5 0";
        due("the 16th into the first", 15, 64, units);
    }

    private static void dueBehindFour(String what, int place, boolean shares) {
        due(what, shares ? 4 : -1, 64, "2 10", "2 20", "2 30", "2 40", "2 " + place, "0 0");
    }

    private static void unitsWithoutAPlace() {
        due("a large one", -1, 10, "4096 -1", "10 0");
        due("two of them and a placed one", -1, 10, "3 -1", "3 -1", "4 6", "6 0");
        due("one that would share the first cell", -1, 10, "1 -1", "1 0");
        due("behind a placed one", -1, 10, "4 6", "10 -1", "6 0");
    }

    private static void unitsBehindAreNotLookedAt() {
        due("told of the later one", 1, 64, "5 10", "5 12", "0 0");
        CodeProof x = Programs.code(64, "5 10: 99", "5 12", "0 0");
        Check.fault("all of the first unit before the second one's place", x, 2, 0, 0);
        x.change(0, 0, 18, 0, 0, 0);
        Check.fault("then that place", x, 1, 1, -1);
        due("the first of two", 1, 64, "5 10", "5 12", "5 60", "0 0");
    }
}
