/**
 * Promise 3, unit: "A new unit, to which instructions come from now on: its number. BAD: there are 16; frame is not
 * 0 .. 4,096, or place not -1 .. 4,095."
 */
public final class UnitTest {
    private static final int[] RIGHT_FRAMES = {0, 1, 4095, 4096};
    private static final int[] WRONG_FRAMES = {-1, -2, 4097, 4098, Check.LEAST, Check.MOST};
    private static final int[] RIGHT_PLACES = {-1, 0, 1, 4094, 4095};
    private static final int[] WRONG_PLACES = {-2, -3, 4096, 4097, Check.LEAST, Check.MOST};

    public static void main(String[] args) {
        framesAndPlacesThatAreRight();
        framesAndPlacesAreKept();
        wrongFrames();
        wrongPlaces();
        sixteen();
        instructionsComeToTheNewOne();
        endsTheProof();
        Check.end();
    }

    private static void framesAndPlacesThatAreRight() {
        for (int frame : RIGHT_FRAMES) {
            for (int place : RIGHT_PLACES) {
                CodeProof x = new CodeProof();
                Check.due("unit(" + frame + ", " + place + ")", x.unit(frame, place), 0);
                Check.due("count(3) behind it", x.count(3), 1);
                Check.due("the next unit", x.unit(frame, place), 1);
                Check.due("count(3) behind that", x.count(3), 2);
            }
        }
    }

    private static void framesAndPlacesAreKept() {
        for (int frame : new int[] {0, 1, 2, 4095, 4096}) {
            CodeProof x = Programs.code(4096, frame + " 0: 12 " + (frame - 1) + " 0, 13 " + (frame - 1) + " 3, 14 1");
            Check.due("the last cell of a frame of " + frame, x.prove(), frame == 0 ? 4 : 0);
            x = Programs.code(4096, frame + " 0: 12 " + frame + " 0, 13 " + frame + " 3, 14 1");
            Check.due("a cell behind a frame of " + frame, x.prove(), 4);
        }
        for (int place : RIGHT_PLACES) {
            CodeProof x = Programs.code(4096, "1 " + place, "0 0: 16 0");
            Check.due("a unit at " + place + " has a place", x.prove(), place == -1 ? 3 : 0);
            x = Programs.code(4096, "1 " + place, "0 0: 15 0 0");
            // Without a place it is its one cell that the program, which has none, has no room for.
            Check.due("a unit at " + place + " is not entered", x.prove(), place == -1 ? 4 : 3);
        }
        for (int place = 0; place <= 4095; place += 4095) {
            CodeProof x = Programs.code(4096, "1 " + place, "1 " + place, "0 0");
            Check.fault("two units at " + place, x, 1, 1, -1);
        }
    }

    private static void wrongFrames() {
        for (int frame : WRONG_FRAMES) {
            for (int place : RIGHT_PLACES) {
                Refusal.dueInAllStates("unit(" + frame + ", " + place + ")", x -> x.unit(frame, place));
            }
        }
    }

    private static void wrongPlaces() {
        for (int place : WRONG_PLACES) {
            for (int frame : RIGHT_FRAMES) {
                Refusal.dueInAllStates("unit(" + frame + ", " + place + ")", x -> x.unit(frame, place));
            }
        }
        for (int frame : WRONG_FRAMES) {
            for (int place : WRONG_PLACES) {
                Refusal.dueInAllStates("unit(" + frame + ", " + place + ")", x -> x.unit(frame, place));
            }
        }
    }

    private static void sixteen() {
        CodeProof x = new CodeProof();
        for (int unit = 0; unit < 16; unit++) {
            Check.due("unit " + unit, x.unit(0, 0), unit);
            Check.due("count(3)", x.count(3), unit + 1);
        }
        Check.due("a 17th unit", x.unit(0, 0), CodeProof.BAD);
        Check.due("an 18th unit", x.unit(0, 0), CodeProof.BAD);
        Check.due("count(3) at the end", x.count(3), 16);
        Refusal.due("a 17th unit, accepted code", Refusal::full, made -> made.unit(1, 17));
        Refusal.due("a 17th unit, refused code", UnitTest::sixteenRefused, made -> made.unit(0, 0));
        Refusal.due("a 17th unit, code not proved", UnitTest::sixteenNotProved, made -> made.unit(0, 0));
    }

    private static CodeProof sixteenNotProved() {
        CodeProof x = Programs.code(Refusal.CELLS);
        for (int unit = 0; unit < 16; unit++) {
            x.unit(0, 0);
            x.add(18, 0, 0, 0);
        }
        return x;
    }

    private static CodeProof sixteenRefused() {
        CodeProof x = sixteenNotProved();
        x.change(7, 0, 19, 0, 0, 0);
        return Refusal.proved(x);
    }

    private static void instructionsComeToTheNewOne() {
        CodeProof x = new CodeProof();
        x.unit(3, 20);
        x.add(17, 5, 0, 0);
        x.add(17, 5, 0, 0);
        x.unit(3, 0);
        Check.due("the first one of the new unit", x.add(18, 0, 0, 0), 0);
        Check.due("the second one of the new unit", x.add(99, 0, 0, 0), 1);
        Check.fault("the new unit's second one is wrong", x, 2, 1, 1);
        x.change(1, 1, 18, 0, 0, 0);
        x.change(1, 0, 17, 5, 0, 0);
        Check.accepted("both units", x);
        Check.due("steps(0)", x.steps(0), 2);
        Check.due("steps(1)", x.steps(1), 2);
        x.unit(0, 0);
        Check.fault("the one before is not the program any more", x, 0, -1, -1);
        Check.due("steps of a unit without instructions", x.steps(2), 0);
        Check.due("it has none", x.change(2, 0, 18, 0, 0, 0), CodeProof.BAD);
    }

    private static void endsTheProof() {
        CodeProof x = Programs.program("18");
        x.prove();
        x.unit(0, 0);
        Check.due("steps behind it", x.steps(0), CodeProof.BAD);
        Check.due("depth behind it", x.depth(0), CodeProof.BAD);
        Check.due("walk behind it", x.walk(0), CodeProof.BAD);
        x = Programs.program("99");
        x.prove();
        x.unit(0, 0);
        Check.due("the fault behind it", x.count(0), 0);
        Check.due("its unit behind it", x.count(1), -1);
        Check.due("its instruction behind it", x.count(2), -1);
    }
}
