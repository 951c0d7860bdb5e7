import java.util.ArrayDeque;
import java.util.Queue;
import java.util.Random;
import java.util.function.Supplier;

/** Random runs of calls, always the same for one seed; a call is {which, a, b, c, d}. */
final class Calls {
    static final int MOST = 512;
    private static final String[] NAMES = {"station", "trunk", "find", "put", "bind", "join", "part", "unbind",
        "crew", "ready", "tie", "walk", "go", "storm", "breaks", "right", "toll", "price", "sell", "advance",
        "balance", "best", "passes", "told", "raft", "crewed", "count"};
    private static final int[] OFTEN = {2, 14, 2, 18, 10, 14, 6, 2, 3, 40, 3, 14, 12, 1, 5, 3, 2, 4, 8, 2,
        4, 10, 10, 10, 14, 10, 6};
    private static final int[] WILD = {Integer.MIN_VALUE, Integer.MAX_VALUE, -2, -1, 0, 1, 8, 9, 10, 12, 60,
        100, 120, 501, 1001, 100001, 20001};

    private final Random random;
    private final int wildness;
    private final int total;
    private int stations = 0;
    private int trunks = 0;
    private int rafts = 0;
    private int crews = 0;
    private int now = 0;
    private int mark = 1;
    private final Queue<Supplier<int[]>> scene = new ArrayDeque<>();

    Calls(long seed) {
        random = new Random(seed);
        wildness = 3 + random.nextInt(60);
        int sum = 0;
        for (int often : OFTEN) {
            sum += often;
        }
        total = sum;
    }

    /** What the last call answered: numbers that came make later calls likely to mean something. */
    void learn(int[] call, int answer) {
        if (answer == RaftRivers.NONE) {
            return;
        }
        switch (call[0]) {
            case 0: stations = answer + 1; break;
            case 1: trunks = answer + 1; mark = call[1]; break;
            case 4: case 6: rafts = answer + 1; break;
            case 8: crews = answer + 1; break;
            case 12: now = answer; break;
            default: break;
        }
    }

    int[] next(int already) {
        if (already < 3) {
            return fill(0);
        }
        if (already < 16) {
            return fill(below(7) ? 8 : 1);
        }
        if (scene.isEmpty() && below(2)) {
            beginScene();
        }
        if (!scene.isEmpty() && below(8)) {
            return scene.remove().get();
        }
        int at = random.nextInt(total);
        int which = 0;
        while (at >= OFTEN[which]) {
            at -= OFTEN[which];
            which++;
        }
        return fill(which);
    }

    /** A raft is built of a few rows and made ready; then it may be tied, parted, sent or broken. */
    private void beginScene() {
        int place = station();
        int rows = 1 + random.nextInt(below(8) ? 3 : 9);
        for (int i = 0; i < rows; i++) {
            int logs = 1 + random.nextInt(2);
            for (int j = 0; j < logs; j++) {
                scene.add(() -> with(call(1), 1 + random.nextInt(99999), log(), place, 0));
                scene.add(() -> with(call(3), trunks - 1, 0, 0, 0));
            }
            scene.add(() -> call(4));
            int behind = i;
            if (i > 0) {
                scene.add(() -> with(call(5), rafts - 1 - behind, rafts - 1, 0, 0));
            }
        }
        if (below(3)) {
            scene.add(() -> with(call(6), rafts - rows, 1 + random.nextInt(rows), 0, 0));
        }
        for (int i = 0; i < 3; i++) {
            scene.add(() -> with(call(9), below(7) ? rafts - rows : rafts - 1, number(crews), 0, 0));
        }
        scene.add(() -> fill(21 + random.nextInt(2)));
        if (below(4)) {
            scene.add(() -> with(call(12), random.nextInt(3), 0, 0, 0));
            scene.add(() -> fill(14));
            scene.add(() -> fill(14));
            scene.add(() -> fill(11));
        }
    }

    private static int[] call(int which) {
        return new int[] {which, 0, 0, 0, 0};
    }

    private int[] fill(int which) {
        int[] call = call(which);
        switch (which) {
            case 0: return with(call, number(stations), weir(), 5 + random.nextInt(below(7) ? 30 : 996), random.nextInt(2));
            case 1: return with(call, 1 + random.nextInt(below(9) ? 99999 : 50), log(), station(), 0);
            case 2: return with(call, below(5) ? mark : 1 + random.nextInt(50), 0, 0, 0);
            case 3: case 18: return with(call, late(trunks), 0, 0, 0);
            case 5: return with(call, late(rafts), late(rafts), 0, 0);
            case 6: return with(call, late(rafts), 1 + random.nextInt(3), 0, 0);
            case 7: case 10: return with(call, late(rafts), 0, 0, 0);
            case 8: return with(call, station(), 0, 0, 0);
            case 9: return with(call, late(rafts), number(crews), 0, 0);
            case 11: return with(call, number(crews), 0, 0, 0);
            case 12: return with(call, below(9) ? random.nextInt(6) : random.nextInt(60), 0, 0, 0);
            case 13: return with(call, station(), now + random.nextInt(6), now + random.nextInt(12), 0);
            case 14: return with(call, late(rafts), random.nextInt(2), 0, 0);
            case 15: return with(call, random.nextInt(8), random.nextInt(10), 0, 0);
            case 16: return with(call, day(), random.nextInt(101), 0, 0);
            case 17: return with(call, station(), random.nextInt(4), day(), random.nextInt(1001));
            case 19: return with(call, random.nextInt(8), 1 + random.nextInt(100000), 0, 0);
            case 20: return with(call, random.nextInt(8), 0, 0, 0);
            case 21: case 22: return with(call, station(), random.nextInt(below(6) ? 2 : 5), 0, 0);
            case 23: return with(call, number(trunks), random.nextInt(8), 0, 0);
            case 24: return with(call, late(rafts), random.nextInt(7), 0, 0);
            case 25: return with(call, number(crews), random.nextInt(4), 0, 0);
            case 26: return with(call, below(5) ? random.nextInt(8) : 100 + station(), 0, 0, 0);
            default: return call;
        }
    }

    private int[] with(int[] call, int a, int b, int c, int d) {
        int[] told = {a, b, c, d};
        for (int i = 0; i < 4; i++) {
            call[i + 1] = random.nextInt(wildness * 4) == 0 ? WILD[random.nextInt(WILD.length)] : told[i];
        }
        return call;
    }

    private boolean below(int ofTen) {
        return random.nextInt(10) < ofTen;
    }

    private int number(int count) {
        return count == 0 ? 0 : random.nextInt(count);
    }

    /** Those that came last are the likeliest to be whole. */
    private int late(int count) {
        return below(7) ? Math.max(0, count - 1 - random.nextInt(5)) : number(count);
    }

    /** Most things are at few stations, so that rafts and crews meet. */
    private int station() {
        return below(7) ? Math.min(1, Math.max(0, stations - 1)) : number(stations);
    }

    private int day() {
        return below(8) ? now / 24 + random.nextInt(3) : random.nextInt(1001);
    }

    private int weir() {
        return Rivers.weir(1 + random.nextInt(below(8) ? 4 : 20), 1 + random.nextInt(60),
            below(8) ? random.nextInt(4) : random.nextInt(51));
    }

    private int log() {
        return Rivers.log(random.nextInt(8), random.nextInt(4), 1 + random.nextInt(9));
    }

    static String text(int[] call) {
        return NAMES[call[0]] + "(" + call[1] + ", " + call[2] + ", " + call[3] + ", " + call[4] + ")";
    }

    static boolean refused(int[] call, int answer) {
        switch (call[0]) {
            case 5: case 7: case 9: case 10: case 13: case 15: case 16: case 17: return answer == 0;
            case 19: return answer == Integer.MIN_VALUE;
            case 20: return false;
            default: return answer == RaftRivers.NONE;
        }
    }

    static int answer(RaftRivers x, int[] call) {
        int a = call[1];
        int b = call[2];
        int c = call[3];
        int d = call[4];
        switch (call[0]) {
            case 0: return x.station(a, b, c, d == 1);
            case 1: return x.trunk(a, b, c);
            case 2: return x.find(a);
            case 3: return x.put(a);
            case 4: return x.bind();
            case 5: return x.join(a, b) ? 1 : 0;
            case 6: return x.part(a, b);
            case 7: return x.unbind(a) ? 1 : 0;
            case 8: return x.crew(a);
            case 9: return x.ready(a, b) ? 1 : 0;
            case 10: return x.tie(a) ? 1 : 0;
            case 11: return x.walk(a);
            case 12: return x.go(a);
            case 13: return x.storm(a, b, c) ? 1 : 0;
            case 14: return x.breaks(a, b == 1);
            case 15: return x.right(a, b) ? 1 : 0;
            case 16: return x.toll(a, b) ? 1 : 0;
            case 17: return x.price(a, b, c, d) ? 1 : 0;
            case 18: return x.sell(a);
            case 19: return x.advance(a, b);
            case 20: return x.balance(a);
            case 21: return x.best(a, b);
            case 22: return x.passes(a, b);
            case 23: return x.told(a, b);
            case 24: return x.raft(a, b);
            case 25: return x.crewed(a, b);
            default: return x.count(a);
        }
    }
}
