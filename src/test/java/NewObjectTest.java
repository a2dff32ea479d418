import java.util.Random;

/** Promise 1: a new object is "as behind begin(64)". */
public final class NewObjectTest {
    public static void main(String[] args) {
        thereIsNothing();
        thereAre64Cells();
        tellsWhatOneBehindBeginTells();
        anyRunIsAsBehindBegin();
        Check.end();
    }

    private static void thereIsNothing() {
        CodeProof x = new CodeProof();
        Check.due("count(0)", x.count(0), 0);
        Check.due("count(1)", x.count(1), -1);
        Check.due("count(2)", x.count(2), -1);
        Check.due("count(3)", x.count(3), 0);
        Check.due("count(4)", x.count(4), 0);
        Check.due("steps(0)", x.steps(0), CodeProof.BAD);
        Check.due("depth(0)", x.depth(0), CodeProof.BAD);
        Check.due("walk(0)", x.walk(0), CodeProof.BAD);
        Check.due("add", x.add(18, 0, 0, 0), CodeProof.BAD);
        Check.due("change", x.change(0, 0, 18, 0, 0, 0), CodeProof.BAD);
        Check.due("prove()", x.prove(), 0);
        Check.due("the first unit", x.unit(1, 0), 0);
        Check.due("its first instruction", x.add(18, 0, 0, 0), 0);
    }

    private static void thereAre64Cells() {
        int[] frames = {63, 64, 65};
        for (int frame : frames) {
            CodeProof x = new CodeProof();
            x.unit(frame, 0);
            Check.due("a program of " + frame + " cells", x.prove(), frame <= 64 ? 0 : 1);
        }
        int[] places = {62, 63, 64};
        for (int place : places) {
            CodeProof x = new CodeProof();
            x.unit(1, place);
            x.unit(1, 0);
            Check.due("a unit at cell " + place, x.prove(), place <= 63 ? 0 : 1);
        }
    }

    private static void tellsWhatOneBehindBeginTells() {
        CodeProof x = new CodeProof();
        x.begin(64);
        Check.same("a new object", Refusal.told(new CodeProof()), Refusal.told(x));
    }

    private static void anyRunIsAsBehindBegin() {
        Random random = new Random(1);
        for (int run = 0; run < 200; run++) {
            CodeProof made = new CodeProof();
            CodeProof begun = new CodeProof();
            begun.begin(64);
            for (int call = 0; call < 200; call++) {
                int kind = random.nextInt(8);
                int[] p = {random.nextInt(20), random.nextInt(12) - 1, random.nextInt(70), random.nextInt(3)};
                Check.due("run " + run + ", call " + call, answer(made, kind, p), answer(begun, kind, p));
            }
        }
    }

    private static int answer(CodeProof x, int kind, int[] p) {
        switch (kind) {
            case 0:
                return x.unit(p[2], p[1]);
            case 1:
            case 2:
                return x.add(p[0], p[1], p[2], p[3]);
            case 3:
                return x.change(p[3], p[1], p[0], p[1], p[2], p[3]);
            case 4:
                return x.count(p[3]);
            case 5:
                return x.steps(p[3]);
            case 6:
                return x.walk(p[2]);
            default:
                return x.prove();
        }
    }
}
