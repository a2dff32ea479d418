import java.util.LinkedHashMap;
import java.util.Map;
import java.util.function.Supplier;
import java.util.function.ToIntFunction;

/** A refused call answers BAD and changes nothing: an object with it goes on like one that was made without it. */
final class Refusal {
    /** The cells of all code here; a new object has more. */
    static final int CELLS = 20;

    private static final String[] CODE = {"3 16: 0 1, 2 2", "3 -1: 17 5 0", "12 0: 15 1 0, 16 0 0, 0 7, 11 5, 17 5 0"};

    private Refusal() {
    }

    /** Every state that a call may come in, but that of full code. */
    static Map<String, Supplier<CodeProof>> states() {
        Map<String, Supplier<CodeProof>> states = new LinkedHashMap<>();
        states.put("a new object", CodeProof::new);
        states.put("no unit, proved", () -> proved(Programs.code(CELLS)));
        states.put("code not proved", () -> Programs.code(CELLS, CODE));
        states.put("accepted code", () -> proved(Programs.code(CELLS, CODE)));
        states.put("refused code", Refusal::refused);
        states.put("accepted code to which one came", Refusal::grown);
        return states;
    }

    /** 16 units with 256 instructions, accepted. */
    static CodeProof full() {
        CodeProof x = Programs.code(CELLS);
        for (int unit = 0; unit < 16; unit++) {
            x.unit(1, unit == 15 ? 0 : unit + 1);
            for (int i = 0; i < 16; i++) {
                x.add(18, 0, 0, 0);
            }
        }
        return proved(x);
    }

    private static CodeProof refused() {
        CodeProof x = Programs.code(CELLS, CODE);
        x.change(1, 0, 17, 9, 0, 0);
        return proved(x);
    }

    private static CodeProof grown() {
        CodeProof x = proved(Programs.code(CELLS, CODE));
        x.add(18, 0, 0, 0);
        return x;
    }

    static CodeProof proved(CodeProof x) {
        x.prove();
        return x;
    }

    static void dueInAllStates(String what, ToIntFunction<CodeProof> call) {
        for (Map.Entry<String, Supplier<CodeProof>> state : states().entrySet()) {
            due(what + " (" + state.getKey() + ")", state.getValue(), call);
        }
        due(what + " (full code)", Refusal::full, call);
    }

    static void due(String what, Supplier<CodeProof> made, ToIntFunction<CodeProof> call) {
        CodeProof with = made.get();
        CodeProof without = made.get();
        Check.due(what, call.applyAsInt(with), CodeProof.BAD);
        Check.same(what + ": all that is told behind it", told(with), told(without));
        Check.same(what + ": how it goes on", goesOn(with), goesOn(without));
    }

    /** What an object tells in calls that change nothing. */
    static String told(CodeProof x) {
        StringBuilder text = new StringBuilder();
        for (int which = 0; which <= 4; which++) {
            text.append(x.count(which)).append(' ');
        }
        int last = x.count(3) - 1;
        text.append(x.steps(0)).append(' ').append(x.depth(0)).append(' ');
        text.append(x.steps(last)).append(' ').append(x.depth(last)).append(' ');
        return text.append(x.walk(0)).append(' ').append(x.walk(-1L)).toString();
    }

    /** Calls that would tell other units, instructions or cells than those that are there. */
    private static String goesOn(CodeProof x) {
        StringBuilder text = new StringBuilder();
        text.append(x.prove()).append(" | ").append(told(x));
        text.append(" | ").append(x.add(18, 0, 0, 0)).append(' ').append(x.prove()).append(" | ").append(told(x));
        text.append(" | ").append(x.change(0, 0, 0, 3, 0, 0)).append(' ').append(x.prove()).append(' ').append(told(x));
        // All T cells have room for a unit in the last one, and none for one behind it.
        text.append(" | ").append(x.unit(1, CELLS - 1)).append(' ').append(x.unit(0, 0)).append(' ').append(x.prove());
        text.append(" | ").append(told(x));
        text.append(" | ").append(x.unit(1, CELLS)).append(' ').append(x.unit(0, 0)).append(' ').append(x.prove());
        return text.append(" | ").append(told(x)).toString();
    }
}
