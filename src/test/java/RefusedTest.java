/**
 * What is refused changes nothing: of two objects one gets all calls of a run, the other one only those that
 * the first one did not refuse; what both are asked, they answer alike.
 */
public final class RefusedTest {
    private static final Due due = new Due();

    public static void main(String[] args) {
        for (long seed = 1; seed <= 2000 && due.wrong() < 20; seed++) {
            run(seed);
        }
        due.end();
    }

    private static void run(long seed) {
        due.part("run " + seed);
        Calls calls = new Calls(seed);
        RaftRivers all = new RaftRivers();
        RaftRivers taken = new RaftRivers();
        for (int i = 0; i < Calls.MOST; i++) {
            int[] call = calls.next(i);
            int answer = Calls.answer(all, call);
            calls.learn(call, answer);
            if (!Calls.refused(call, answer)) {
                due.is(Calls.text(call) + " as call " + i, Calls.answer(taken, call), answer);
            }
        }
    }
}
