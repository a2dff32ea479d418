import java.util.ArrayDeque;
import java.util.Deque;
import java.util.Random;

/** All promises together: runs of up to 512 calls on one object, in which all methods come. */
public final class LongRunTest {
    private static final int BAD = CodeProof.BAD;
    private static final int RUNS = 1500;
    private static final long SEED = 512L;
    private static final int MOST_CALLS = 512;
    private static final int FAULTS = 12;

    public static void main(String[] args) {
        fullCode();
        long seed = args.length > 0 ? Long.parseLong(args[0]) : SEED;
        int runs = args.length > 1 ? Integer.parseInt(args[1]) : RUNS;
        MadeUpRuns made = new MadeUpRuns(new Random(seed));
        for (int run = 0; run < runs && Check.wrongs() < 20; run++) {
            made.run(run);
        }
        if (runs >= RUNS) {
            made.dueOfAll();
        }
        Check.end();
    }

    /** 512 calls on 16 units with 256 instructions; the answers are worked out by hand. */
    private static void fullCode() {
        HandMade run = new HandMade();
        run.due(0, "prove");
        run.due(BAD, "walk", 0);
        run.due(32, "begin", 32);
        for (int u = 0; u < 16; u++) {
            run.due(u, "unit", 2, u == 15 ? 0 : 2 + 2 * u);
            addSixteen(run, u);
        }
        run.due(BAD, "add", 18, 0, 0, 0);
        run.due(BAD, "unit", 0, 0);
        run.due(0, "count", 0);
        run.due(16, "count", 3);
        run.due(256, "count", 4);
        run.due(BAD, "steps", 0);
        run.due(0, "prove");
        for (int u = 0; u < 16; u++) {
            run.due(16 * (u + 1), "steps", u);
            run.due(1, "depth", u);
        }
        run.due(256, "walk", 0);
        run.due(BAD, "steps", 16);
        run.due(BAD, "depth", -1);
        run.due(BAD, "count", 5);
        for (int u = 15; u >= 0; u--) {
            breakAndMend(run, u);
        }
        run.due(BAD, "begin", 4097);
        run.due(256, "walk", 0);
        Check.due("the calls of the run", run.calls, MOST_CALLS);
    }

    /** 16 steps of its own, of which one begins the unit before; never more than one number on the stack. */
    private static void addSixteen(HandMade run, int u) {
        run.due(0, "add", u == 0 ? 10 : 16, u == 0 ? 1 : u - 1, 0, 0);
        for (int i = 1; i < 15; i += 2) {
            run.due(i, "add", 0, i, 0, 0);
            run.due(i + 1, "add", 2, 1, 0, 0);
        }
        run.due(15, "add", 18, 0, 0, 0);
    }

    private static void breakAndMend(HandMade run, int u) {
        run.due(0, "change", u, 2, 9, 0, 0, 0);
        run.due(0, "count", 0);
        run.due(8, "prove");
        run.due(u, "count", 1);
        run.due(2, "count", 2);
        run.due(BAD, "steps", u);
        run.due(BAD, "walk", 1);
        run.due(0, "change", u, 2, 2, 0, 0, 0);
        run.due(0, "prove");
        run.due(256, "steps", 15);
        run.due(1, "depth", 15);
        run.due(256, "walk", -1);
    }

    private static final class HandMade {
        private final CodeProof x = new CodeProof();
        private int calls;

        void due(int want, String name, long... args) {
            Call call = new Call(name, args);
            calls++;
            Check.due("full code, call " + calls + ": " + call, call.on(x), want);
        }
    }

    /** Made-up runs; what is due is what the twin answers. */
    private static final class MadeUpRuns {
        private static final int[] CELLS = {-1, 0, 1, 63, 64, 100, 4096, 4097, Integer.MAX_VALUE, Integer.MIN_VALUE};

        private final Random random;
        private final MadeUp madeUp;
        private final Deque<Call> planned = new ArrayDeque<>();
        private final int[] answered = new int[Call.NAMES.length];
        private final int[] refused = new int[Call.NAMES.length];
        private final int[] faults = new int[FAULTS];
        private int unsure;
        private CodeProof x;
        private Twin twin;

        MadeUpRuns(Random random) {
            this.random = random;
            madeUp = new MadeUp(random);
        }

        void run(int run) {
            x = new CodeProof();
            twin = new Twin(random);
            planned.clear();
            planCode(run % 2 == 0);
            boolean[] came = new boolean[Call.NAMES.length];
            StringBuilder told = new StringBuilder();
            int most = run % 2 == 0 ? MOST_CALLS : 1 + random.nextInt(MOST_CALLS);
            int before = Check.wrongs();
            for (int k = 1; k <= most && Check.wrongs() == before; k++) {
                Call call = nextCall();
                came[call.kind()] = true;
                told.append(call).append("; ");
                make("run " + run + ", call " + k + ": ", call);
            }
            if (Check.wrongs() > before) {
                System.out.println("the run: " + told);
            }
            for (int kind = 0; most == MOST_CALLS && kind < came.length; kind++) {
                Check.holds(Call.NAMES[kind] + " comes in run " + run, came[kind]);
            }
        }

        private void make(String where, Call call) {
            int want = twin.answer(call);
            int got = call.on(x);
            if (twin.isUnsure()) {
                // Only the model is at a loss here: the run goes on with other code.
                unsure++;
                planned.clear();
                planned.add(new Call("begin", 64));
                return;
            }
            Check.due(where + call, got, want);
            (want == BAD ? refused : answered)[call.kind()]++;
            if (call.name().equals("prove")) {
                faults[want]++;
            }
        }

        void dueOfAll() {
            for (int kind = 0; kind < Call.NAMES.length; kind++) {
                String name = Call.NAMES[kind];
                Check.holds(name + " answers often: " + answered[kind], answered[kind] >= 500);
                Check.holds(name + " is refused often: " + refused[kind], refused[kind] >= 200 || name.equals("prove"));
            }
            for (int fault = 0; fault < FAULTS; fault++) {
                Check.holds("fault " + fault + " comes often: " + faults[fault], faults[fault] >= 20);
            }
            Check.holds("the model is seldom at a loss: " + unsure, unsure * 50 < faults[0]);
        }

        private Call nextCall() {
            if (planned.isEmpty() && random.nextInt(twin.unitCount() == 0 ? 4 : 40) == 0) {
                planCode(random.nextInt(10) > 0);
            }
            if (planned.isEmpty() && random.nextInt(4) == 0) {
                planChange();
            }
            boolean goesOn = !planned.isEmpty() && random.nextInt(8) > 0;
            return goesOn ? planned.remove() : random.nextInt(20) > 0 ? asks() : comes();
        }

        private void planCode(boolean anew) {
            Model model = madeUp.next();
            if (anew) {
                planned.add(new Call("begin", model.t));
            }
            for (Model.Unit unit : model.units) {
                planned.add(new Call("unit", unit.frame, unit.place));
                for (int[] it : unit.code) {
                    planned.add(new Call("add", it[0], it[1], it[2], it[3]));
                }
            }
            planned.add(new Call("prove"));
        }

        /** An instruction becomes another one, and then again what it was: so accepted code comes back. */
        private void planChange() {
            int unit = twin.unitCount() == 0 ? -1 : random.nextInt(twin.unitCount());
            if (unit < 0 || twin.sizeOf(unit) == 0) {
                return;
            }
            int i = random.nextInt(twin.sizeOf(unit));
            int[] was = twin.instruction(unit, i);
            planned.add(change(unit, i, madeUp.another(was, twin.sizeOf(unit))));
            for (int k = random.nextInt(3); k > 0; k--) {
                planned.add(asks());
            }
            planned.add(new Call("prove"));
            for (int k = random.nextInt(4); k > 0; k--) {
                planned.add(asks());
            }
            planned.add(change(unit, i, was));
            planned.add(new Call("prove"));
        }

        private static Call change(int unit, int i, int[] it) {
            return new Call("change", unit, i, it[0], it[1], it[2], it[3]);
        }

        /** A call that changes no code. */
        private Call asks() {
            int unit = random.nextInt(-1, twin.unitCount() + 1);
            switch (random.nextInt(twin.isAccepted() ? 5 : 7)) {
                case 0:
                    return new Call("steps", unit);
                case 1:
                    return new Call("depth", unit);
                case 2:
                case 3:
                    return new Call("walk", random.nextBoolean() ? random.nextLong() : random.nextInt(-1, 8));
                case 5:
                    return new Call("prove");
                default:
                    return new Call("count", random.nextInt(-1, 6));
            }
        }

        /** A call that may change the code, but often is refused. */
        private Call comes() {
            switch (random.nextInt(12)) {
                case 0:
                    return new Call("begin", CELLS[random.nextInt(CELLS.length)]);
                case 1:
                case 2:
                    return new Call("unit", CELLS[random.nextInt(CELLS.length)], random.nextInt(-2, 2));
                case 3:
                case 4:
                    return new Call("unit", random.nextInt(3), CELLS[random.nextInt(CELLS.length)]);
                case 5:
                case 6:
                    return new Call("add", random.nextInt(19), random.nextInt(3), random.nextInt(3), 1);
                case 7:
                    return new Call("add", 10, 1, 0, 0);
                default:
                    return change(random.nextInt(-1, twin.unitCount() + 1), random.nextInt(-1, 40),
                            new int[] {random.nextInt(19), random.nextInt(8), random.nextInt(8), random.nextInt(3)});
            }
        }
    }
}
