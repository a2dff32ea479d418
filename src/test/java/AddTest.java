/**
 * Promise 4, add: "An instruction comes behind those of the last unit: which one of the unit it is. BAD: no unit, or there
 * are 256."
 */
public final class AddTest {
    public static void main(String[] args) {
        tellsWhichOneItIs();
        comesBehindTheOthers();
        operandsAreKept();
        noUnit();
        allInOneUnit();
        allInSeveralUnits();
        oneLessThanAll();
        endsTheProof();
        Check.end();
    }

    private static void tellsWhichOneItIs() {
        CodeProof x = new CodeProof();
        for (int unit = 0; unit < 3; unit++) {
            x.unit(0, 0);
            for (int i = 0; i < 5; i++) {
                Check.due("instruction " + i + " of unit " + unit, x.add(18, 0, 0, 0), i);
                Check.due("count(4)", x.count(4), 5 * unit + i + 1);
            }
        }
        Check.due("a number that is none comes, too", x.add(-1, Check.LEAST, Check.MOST, -1), 5);
        Check.due("the greatest number, too", x.add(Check.MOST, 0, 0, 0), 6);
        Check.due("the least number, too", x.add(Check.LEAST, 0, 0, 0), 7);
    }

    private static void comesBehindTheOthers() {
        CodeProof x = Programs.program("0 1, 0 2");
        Check.fault("two numbers left", x, 10, 0, 1);
        Programs.addAll(x, "4 0 0 2");
        Check.accepted("and taken", x);
        Check.due("steps of three", x.steps(0), 3);
        Programs.addAll(x, "2 0");
        Check.fault("nothing is left for a fourth", x, 8, 0, 3);
    }

    /** Each operand is told apart from the others by where the fault is. */
    private static void operandsAreKept() {
        Check.accepted("a and c of PUT", Programs.program("0 1, 0 1, 4 3 99 7"));
        Check.fault("one cell more", Programs.program("0 1, 0 1, 4 3 99 8"), 4, 0, 2);
        Check.fault("one cell on", Programs.program("0 1, 0 1, 4 4 99 7"), 4, 0, 2);
        Check.accepted("a and b of BLOCK", Programs.program("17 5 7 99"));
        Check.fault("a greater b", Programs.program("17 5 8 99"), 4, 0, 0);
        Check.fault("a smaller a", Programs.program("17 4 7 99"), 4, 0, 0);
        String any = " " + Check.MOST + " " + Check.LEAST;
        Check.accepted("operands that are not named may be any", Programs.program("0 0" + any + ", 0 -1" + any + ", 0 1" + any
                + ", 9 -1" + any + ", 2 0" + any + ", 18 -1" + any));
    }

    private static void noUnit() {
        Refusal.due("add to a new object", CodeProof::new, x -> x.add(18, 0, 0, 0));
        Refusal.due("add behind begin", () -> Programs.code(Refusal.CELLS), x -> x.add(18, 0, 0, 0));
        Refusal.due("add where no unit was proved", () -> Refusal.proved(Programs.code(Refusal.CELLS)),
                x -> x.add(18, 0, 0, 0));
        CodeProof x = Programs.program("18");
        x.begin(64);
        Check.due("add behind begin, with units before it", x.add(18, 0, 0, 0), CodeProof.BAD);
        x.unit(0, 0);
        Check.due("the first one behind it", x.add(18, 0, 0, 0), 0);
        Check.due("count(4)", x.count(4), 1);
    }

    private static void allInOneUnit() {
        CodeProof x = new CodeProof();
        x.unit(3, 0);
        for (int i = 0; i < 256; i++) {
            Check.due("instruction " + i, x.add(17, 5, 0, 0), i);
        }
        Check.due("count(4) of all", x.count(4), 256);
        Check.due("a 257th", x.add(18, 0, 0, 0), CodeProof.BAD);
        Check.due("a 258th", x.add(99, 0, 0, 0), CodeProof.BAD);
        Check.due("count(4) behind these", x.count(4), 256);
        Check.accepted("256 in one unit", x);
        Check.due("steps of 256", x.steps(0), 256);
        Check.due("a walk through 256", x.walk(0), 256);
        Check.due("a 257th in accepted code", x.add(99, 0, 0, 0), CodeProof.BAD);
        Check.due("steps still", x.steps(0), 256);
        Check.due("the last one may change", x.change(0, 255, 99, 0, 0, 0), 0);
        Check.fault("the last one is wrong", x, 2, 0, 255);
        Check.due("a 257th in refused code", x.add(99, 0, 0, 0), CodeProof.BAD);
        Check.due("the fault still", x.count(0), 2);
        Check.due("its instruction still", x.count(2), 255);
    }

    private static void allInSeveralUnits() {
        CodeProof x = Programs.code(64, "3 20: " + Programs.times(255, "17 5 0"));
        x.unit(3, 0);
        Check.due("the 256th of all", x.add(17, 5, 0, 0), 0);
        Check.due("the 257th of all", x.add(17, 5, 0, 0), CodeProof.BAD);
        Check.accepted("255 and 1", x);
        Check.due("steps(0)", x.steps(0), 255);
        Check.due("steps(1)", x.steps(1), 1);
        Check.due("a unit behind them", x.unit(0, 0), 2);
        Check.due("the 257th of all in it", x.add(17, 5, 0, 0), CodeProof.BAD);
        Check.due("count(4)", x.count(4), 256);
        Check.accepted("a unit without any", x);
        Check.due("steps(2)", x.steps(2), 0);
        for (int wrong : new int[] {18, 99}) {
            Refusal.due("a 257th in 16 units: " + wrong, Refusal::full, made -> made.add(wrong, 0, 0, 0));
        }
    }

    private static void oneLessThanAll() {
        CodeProof x = Programs.code(64, "3 0: " + Programs.times(254, "17 5 0"));
        Check.due("the 255th", x.add(17, 5, 0, 0), 254);
        Check.due("count(4)", x.count(4), 255);
        Check.due("the 256th", x.add(17, 5, 0, 0), 255);
        Check.due("the 257th", x.add(17, 5, 0, 0), CodeProof.BAD);
    }

    private static void endsTheProof() {
        CodeProof x = Programs.program("18");
        x.prove();
        x.add(18, 0, 0, 0);
        Check.due("steps behind it", x.steps(0), CodeProof.BAD);
        Check.due("depth behind it", x.depth(0), CodeProof.BAD);
        Check.due("walk behind it", x.walk(0), CodeProof.BAD);
        x = Programs.program("99");
        x.prove();
        x.add(18, 0, 0, 0);
        Check.due("the fault behind it", x.count(0), 0);
        Check.due("its unit behind it", x.count(1), -1);
        Check.due("its instruction behind it", x.count(2), -1);
    }
}
