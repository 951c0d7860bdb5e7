import java.util.Random;

/**
 * No call throws, whatever it is told and in whatever state, nor behind the 512th call, where the answers are
 * free: what the machine throws ends this test with an exit code that isn't 0.
 */
public final class NeverThrowsTest {
    private static final int MANY_CALLS = 5000;
    private static final int KINDS = 27;
    private static final int[] ENDS = {Integer.MIN_VALUE, Integer.MIN_VALUE + 1, -100001, -2, -1, 0, 1, 2, 99, 100,
        101, 111, 112, 1000000, Integer.MAX_VALUE - 1, Integer.MAX_VALUE};
    private static final Due due = new Due();

    public static void main(String[] args) {
        onNewObjects();
        for (long seed = 20001; seed <= 20100; seed++) {
            onUsedObject(seed);
        }
        due.end();
    }

    private static void onNewObjects() {
        due.part("a new object");
        for (int kind = 0; kind < KINDS; kind++) {
            for (int a : ENDS) {
                for (int b : ENDS) {
                    RaftRivers x = new RaftRivers();
                    Calls.answer(x, new int[] {kind, a, b, a, b});
                    Calls.answer(x, new int[] {kind, b, a, b, a});
                    due.is("count(0) behind call " + kind, x.count(0), kind == 12 ? hoursOf(a) + hoursOf(b) : 0);
                }
            }
        }
    }

    private static int hoursOf(int n) {
        return n >= 0 && n <= 500 ? n : 0;
    }

    /** Half of the calls are likely to be taken, half have arguments from the ends of int. */
    private static void onUsedObject(long seed) {
        due.part("run " + seed);
        Random random = new Random(seed);
        Calls calls = new Calls(seed);
        RaftRivers x = new RaftRivers();
        for (int i = 0; i < MANY_CALLS; i++) {
            int[] call = calls.next(i);
            calls.learn(call, Calls.answer(x, call));
            Calls.answer(x, new int[] {random.nextInt(KINDS), end(random), end(random), end(random), end(random)});
            due.yes("NOW is an HOUR", x.count(0) >= 0 && x.count(0) <= 20000);
        }
    }

    private static int end(Random random) {
        return ENDS[random.nextInt(ENDS.length)];
    }
}
