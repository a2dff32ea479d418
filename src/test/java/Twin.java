import java.util.ArrayList;
import java.util.List;
import java.util.Random;

/** What every call of a run must answer: the face made a second time, over the slow model. */
final class Twin {
    private static final int BAD = -1;
    private static final int MOST_INSTRUCTIONS = 256;

    private final List<Model.Unit> units = new ArrayList<>();
    private final Random random;
    private int t = 64;
    /** What was proved, or null: nothing since code came or changed. */
    private Model proved;

    Twin(Random random) {
        this.random = random;
    }

    int answer(Call call) {
        switch (call.name()) {
            case "begin":
                return begin(call.at(0));
            case "unit":
                return unit(call.at(0), call.at(1));
            case "add":
                return add(new int[] {call.at(0), call.at(1), call.at(2), call.at(3)});
            case "change":
                return change(call.at(0), call.at(1), new int[] {call.at(2), call.at(3), call.at(4), call.at(5)});
            case "prove":
                return prove();
            case "count":
                return count(call.at(0));
            case "steps":
                return accepts(call.at(0)) ? (int) units.get(call.at(0)).steps : BAD;
            case "depth":
                return accepts(call.at(0)) ? units.get(call.at(0)).depth : BAD;
            default:
                return accepts(units.size() - 1) ? walk(call.args()[0]) : BAD;
        }
    }

    private int begin(int newT) {
        if (newT < 1 || newT > 4096) {
            return BAD;
        }
        t = newT;
        units.clear();
        proved = null;
        return newT;
    }

    private int unit(int frame, int place) {
        if (units.size() == 16 || frame < 0 || frame > 4096 || place < -1 || place > 4095) {
            return BAD;
        }
        units.add(new Model.Unit(frame, place));
        proved = null;
        return units.size() - 1;
    }

    private int add(int[] instruction) {
        if (units.isEmpty() || instructions() == MOST_INSTRUCTIONS) {
            return BAD;
        }
        List<int[]> code = units.get(units.size() - 1).code;
        code.add(instruction);
        proved = null;
        return code.size() - 1;
    }

    private int change(int unit, int i, int[] instruction) {
        if (unit < 0 || unit >= units.size() || i < 0 || i >= sizeOf(unit)) {
            return BAD;
        }
        units.get(unit).code.set(i, instruction);
        proved = null;
        return 0;
    }

    private int prove() {
        proved = new Model(t);
        proved.units.addAll(units);
        return proved.prove();
    }

    private int count(int which) {
        switch (which) {
            case 0:
                return proved == null ? 0 : proved.fault;
            case 1:
                return proved == null ? -1 : proved.faultUnit;
            case 2:
                return proved == null ? -1 : proved.faultAt;
            case 3:
                return units.size();
            case 4:
                return instructions();
            default:
                return BAD;
        }
    }

    private boolean accepts(int unit) {
        return proved != null && proved.fault == 0 && unit >= 0 && unit < units.size();
    }

    private int walk(long bits) {
        int steps = proved.walk(bits, random);
        Check.holds("a walk through accepted code: " + proved.broken, proved.broken == null);
        return steps;
    }

    /** Whether the model could not find out the steps of what was proved last. */
    boolean isUnsure() {
        return proved != null && proved.unsureUnit >= 0;
    }

    boolean isAccepted() {
        return proved != null && proved.fault == 0;
    }

    int unitCount() {
        return units.size();
    }

    int sizeOf(int unit) {
        return units.get(unit).code.size();
    }

    int[] instruction(int unit, int i) {
        return units.get(unit).code.get(i);
    }

    private int instructions() {
        int all = 0;
        for (Model.Unit unit : units) {
            all += unit.code.size();
        }
        return all;
    }
}
