import java.lang.management.ManagementFactory;
import java.util.Random;

/** No call throws or fails to answer, whatever its arguments and whatever came before; and calls make no objects. */
public final class AnyCallTest {
    private static final int OBJECTS = 3000;
    private static final int CALLS = 512;
    private static final int CALLS_OF_PROOF = 6;
    private static final int[] EDGES = {Integer.MIN_VALUE, -2, -1, 0, 1, 2, 3, 5, 6, 8, 9, 15, 16, 17, 18, 19, 24, 25,
        63, 64, 255, 256, 4095, 4096, 4097, 1000000, 1000001, Integer.MAX_VALUE - 1, Integer.MAX_VALUE};

    private final Random random = new Random(7);

    public static void main(String[] args) {
        AnyCallTest test = new AnyCallTest();
        for (int k = 0; k < OBJECTS && Check.wrongs() < 20; k++) {
            test.useOne(k);
        }
        callsMakeNothing();
        Check.end();
    }

    private int any() {
        return random.nextInt(3) == 0 ? EDGES[random.nextInt(EDGES.length)] : random.nextInt(12);
    }

    private void useOne(int k) {
        CodeProof x = new CodeProof();
        int call = 0;
        try {
            while (call < CALLS) {
                call += callAny(x, CALLS - call);
            }
            Check.holds("answers", true);
        } catch (Throwable thrown) {
            Check.holds("object " + k + ", call " + call + " does not throw " + thrown, false);
        }
    }

    /** How many calls it was, at most so many. */
    private int callAny(CodeProof x, int most) {
        int kind = random.nextInt(200);
        if (kind < 2) {
            x.begin(any());
        } else if (kind < 12) {
            x.unit(random.nextInt(4) == 0 ? any() : 12 + random.nextInt(9), random.nextInt(4) == 0 ? any() : 0);
        } else if (kind < 80) {
            x.add(random.nextInt(30) == 0 ? any() : random.nextInt(19), any(), any(), any());
        } else if (kind < 110) {
            x.change(any(), any(), random.nextInt(19), any(), any(), any());
        } else if (kind < 150 && most >= CALLS_OF_PROOF) {
            dueOfProof(x);
            return CALLS_OF_PROOF;
        } else if (kind < 160) {
            x.steps(any());
        } else if (kind < 170) {
            x.depth(any());
        } else if (kind < 180) {
            x.count(any());
        } else {
            int steps = x.walk(random.nextLong());
            Check.holds("a walk takes -1 to 1,000,000 steps", steps >= -1 && steps <= 1000000);
        }
        return 1;
    }

    private static void dueOfProof(CodeProof x) {
        int fault = x.prove();
        int unit = x.count(1);
        int instruction = x.count(2);
        int units = x.count(3);
        Check.holds("a fault is one of 0 to 11", fault >= 0 && fault <= 11);
        Check.due("count(0) behind prove()", x.count(0), fault);
        Check.holds("the fault's unit", fault == 0 ? unit == -1 : unit >= 0 && unit < units);
        boolean whole = fault == 0 || fault == 1 || fault == 11;
        Check.holds("the fault's instruction", whole ? instruction == -1 : instruction >= 0 && instruction < 256);
        Check.holds("walk answers with the proof", x.walk(1) == -1 == (fault != 0 || units == 0));
    }

    private static void callsMakeNothing() {
        com.sun.management.ThreadMXBean bean =
                (com.sun.management.ThreadMXBean) ManagementFactory.getThreadMXBean();
        if (!bean.isThreadAllocatedMemorySupported()) {
            return;
        }
        CodeProof x = new CodeProof();
        useAll(x);
        long before = bean.getThreadAllocatedBytes(Thread.currentThread().getId());
        useAll(x);
        long made = bean.getThreadAllocatedBytes(Thread.currentThread().getId()) - before;
        Check.holds("some 200 calls make no objects, but take " + made + " bytes", made < 2000);
        before = bean.getThreadAllocatedBytes(Thread.currentThread().getId());
        x = new CodeProof();
        made = bean.getThreadAllocatedBytes(Thread.currentThread().getId()) - before;
        Check.holds("an object is small, but takes " + made + " bytes", made < 40000);
    }

    private static void useAll(CodeProof x) {
        x.begin(64);
        x.unit(10, 0);
        for (int k = 0; k < 30; k++) {
            int at = 3 * k;
            x.add(12, 9, 2, 0);
            x.add(13, 9, at + 3, 0);
            x.add(14, at + 1, 0, 0);
            x.prove();
            x.walk(k);
            x.count(0);
            x.steps(0);
            x.depth(0);
        }
    }
}
