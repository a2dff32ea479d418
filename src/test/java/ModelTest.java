import java.util.Random;

/** Promises 6 to 10 on made-up code, right and slightly wrong, against the slow model. */
public final class ModelTest {
    private static final int ROUNDS = 20000;
    private static final long SEED = 20261116L;
    private static final int MOST_CALLS = 512;
    private static final int WALKS = 6;

    private final Random random;
    private final MadeUp madeUp;
    private final int[] faults = new int[12];
    private int sure;
    private CodeProof x = new CodeProof();
    private int calls;
    private Model model;

    private ModelTest(long seed) {
        random = new Random(seed);
        madeUp = new MadeUp(random);
    }

    public static void main(String[] args) {
        long seed = args.length > 0 ? Long.parseLong(args[0]) : SEED;
        int rounds = args.length > 1 ? Integer.parseInt(args[1]) : ROUNDS;
        ModelTest test = new ModelTest(seed);
        for (int round = 0; round < rounds && Check.wrongs() < 20; round++) {
            test.round(round);
        }
        for (int fault = 0; fault < test.faults.length && rounds >= ROUNDS; fault++) {
            Check.holds("fault " + fault + " came up often: " + test.faults[fault], test.faults[fault] >= 20);
        }
        Check.holds("most steps were known: " + test.sure, test.sure * 10 >= test.faults[0] * 8);
        Check.end();
    }

    private void round(int round) {
        model = madeUp.next();
        // An object is used again while it may be, so that what earlier code left behind would show.
        if (calls + callsOfRound() > MOST_CALLS) {
            x = new CodeProof();
            calls = 0;
        }
        calls += callsOfRound();
        x.begin(model.t);
        for (Model.Unit unit : model.units) {
            x.unit(unit.frame, unit.place);
            for (int[] it : unit.code) {
                x.add(it[0], it[1], it[2], it[3]);
            }
        }
        String name = "round " + round;
        int before = Check.wrongs();
        compare(name);
        if (Check.wrongs() > before) {
            tell();
        }
    }

    /** As many calls as a round makes at most. */
    private int callsOfRound() {
        int calls = 1 + 5 + WALKS;
        for (Model.Unit unit : model.units) {
            calls += 3 + unit.code.size();
        }
        return calls;
    }

    private void compare(String name) {
        int due = model.prove();
        int got = x.prove();
        if (model.unsureUnit >= 0) {
            int unit = x.count(1);
            boolean later = unit > model.unsureUnit || unit == model.unsureUnit && got == 11;
            Check.holds(name + ": prove() finds nothing before what is unsure: " + got, got == 0 || later);
            faults[0]++;
            return;
        }
        faults[due]++;
        Check.due(name + ": prove()", got, due);
        Check.due(name + ": count(0)", x.count(0), due);
        Check.due(name + ": count(1)", x.count(1), model.faultUnit);
        Check.due(name + ": count(2)", x.count(2), model.faultAt);
        Check.due(name + ": count(3)", x.count(3), model.units.size());
        for (int u = 0; u < model.units.size(); u++) {
            Check.due(name + ": steps(" + u + ")", x.steps(u), due == 0 ? model.units.get(u).steps : -1);
            Check.due(name + ": depth(" + u + ")", x.depth(u), due == 0 ? model.units.get(u).depth : -1);
        }
        if (due != 0) {
            Check.due(name + ": walk(0)", x.walk(0), -1);
            return;
        }
        sure++;
        long most = model.units.get(model.units.size() - 1).steps;
        for (int k = 0; k < WALKS; k++) {
            long bits = k == 0 ? 0 : k == 1 ? -1L : k < 4 ? random.nextLong() : random.nextLong() & random.nextLong();
            int steps = model.walk(bits, random);
            Check.due(name + ": walk(" + bits + ")", x.walk(bits), steps);
            Check.holds(name + ": " + model.broken, model.broken == null);
            Check.holds(name + ": no way is longer than the longest", steps <= most);
        }
    }

    private void tell() {
        System.out.println("T " + model.t);
        for (Model.Unit unit : model.units) {
            System.out.println("unit " + unit.frame + " " + unit.place);
            for (int i = 0; i < unit.code.size() && i < 50; i++) {
                System.out.println("  " + i + ": " + java.util.Arrays.toString(unit.code.get(i)));
            }
        }
    }
}
