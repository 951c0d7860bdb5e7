import java.util.Random;

/** Random runs of calls, each answer held against that of the plain model; all promises. */
public final class ModelTest {
    private static final Due due = new Due();
    private static final int[] taken = new int[27];

    public static void main(String[] args) {
        for (long seed = 10001; seed <= 11500 && due.wrong() < 20; seed++) {
            run(seed);
        }
        for (long seed = 1; seed <= 1500 && due.wrong() < 20; seed++) {
            crowdAtWeir(seed);
        }
        due.part("all runs");
        for (int which = 0; which < taken.length; which++) {
            due.yes("call " + which + " was taken often: " + taken[which], taken[which] > 200);
        }
        due.end();
    }

    private static int both(RaftRivers x, Model model, int... told) {
        int[] call = {0, 0, 0, 0, 0};
        System.arraycopy(told, 0, call, 0, told.length);
        int answer = Calls.answer(x, call);
        due.is(Calls.text(call), answer, model.answer(call));
        return answer;
    }

    /** Up to six rafts are ready at one weir, whose pond is low; they pass hour by hour. */
    private static void crowdAtWeir(long seed) {
        due.part("crowd " + seed);
        Random random = new Random(seed);
        RaftRivers x = new RaftRivers();
        Model model = new Model();
        both(x, model, 0);
        both(x, model, 0, 0, Rivers.weir(1, 1 + random.nextInt(20), random.nextInt(12)), 5 + random.nextInt(40), 0);
        int crowd = 1 + random.nextInt(6);
        for (int i = 0; i < crowd; i++) {
            int first = buildRaft(x, model, random, 1 + random.nextInt(4));
            both(x, model, 9, first, both(x, model, 8, 1));
        }
        for (int hour = 0; hour < 8; hour++) {
            for (int k = 0; k < 5; k++) {
                both(x, model, 21, 1, k);
                both(x, model, 22, 1, k);
            }
            both(x, model, 15, random.nextInt(3), random.nextInt(10));
            both(x, model, 12, 1 + random.nextInt(3));
            both(x, model, 26, 101);
        }
    }

    private static int buildRaft(RaftRivers x, Model model, Random random, int rows) {
        int first = Rivers.NONE;
        for (int i = 0; i < rows; i++) {
            int mark = 1 + x.count(2);
            both(x, model, 3, both(x, model, 1, mark, Rivers.log(random.nextInt(3), 0, 1 + random.nextInt(9)), 1));
            int raft = both(x, model, 4);
            if (first == Rivers.NONE) {
                first = raft;
            } else {
                both(x, model, 5, first, raft);
            }
        }
        return first;
    }

    private static void run(long seed) {
        due.part("run " + seed);
        Calls calls = new Calls(seed);
        RaftRivers x = new RaftRivers();
        Model model = new Model();
        for (int i = 0; i < Calls.MOST; i++) {
            int[] call = calls.next(i);
            int answer = Calls.answer(x, call);
            due.is(Calls.text(call) + " as call " + i, answer, model.answer(call));
            calls.learn(call, answer);
            if (!Calls.refused(call, answer)) {
                taken[call[0]]++;
            }
        }
    }
}
