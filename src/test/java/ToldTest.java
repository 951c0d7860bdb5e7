/** Promises 25 to 28: told, raft, crewed, count. */
public final class ToldTest {
    private static final int NONE = RaftRivers.NONE;
    private static final int[] FAR = {Integer.MIN_VALUE, -100, -1, Integer.MAX_VALUE};
    private static final Due due = new Due();

    public static void main(String[] args) {
        told();
        raft();
        crewed();
        count();
        constants();
        due.end();
    }

    private static void row(String name, int[] got, int... want) {
        for (int i = 0; i < want.length; i++) {
            due.is(name + " " + i, got[i], want[i]);
        }
    }

    private static int[] trunkOf(RaftRivers x, int trunk) {
        int[] all = new int[9];
        for (int i = 0; i < all.length; i++) {
            all[i] = x.told(trunk, i);
        }
        return all;
    }

    private static int[] raftOf(RaftRivers x, int raft) {
        int[] all = new int[8];
        for (int i = 0; i < all.length; i++) {
            all[i] = x.raft(raft, i);
        }
        return all;
    }

    private static int[] crewOf(RaftRivers x, int crew) {
        int[] all = new int[5];
        for (int i = 0; i < all.length; i++) {
            all[i] = x.crewed(crew, i);
        }
        return all;
    }

    private static void told() {
        due.part("promise 25");
        RaftRivers x = Rivers.two();
        x.trunk(501, 738, 1);
        x.trunk(502, 101, 1);
        row("lies", trunkOf(x, 0), 501, 7, 3, 8, 0, 1, NONE, NONE, NONE);
        x.put(0);
        x.put(1);
        row("in the next row", trunkOf(x, 0), 501, 7, 3, 8, 0, 1, NONE, NONE, NONE);
        x.bind();
        row("in a raft", trunkOf(x, 0), 501, 7, 3, 8, 1, NONE, 0, NONE, NONE);
        Rivers.ready(x, 0);
        row("in a raft that is ready", trunkOf(x, 0), 501, 7, 3, 8, 1, NONE, 0, NONE, NONE);
        x.go(1);
        row("in a raft under way", trunkOf(x, 0), 501, 7, 3, 8, 1, NONE, 0, NONE, NONE);
        x.breaks(0, true);
        row("lies again", trunkOf(x, 0), 501, 7, 3, 8, 0, 0, NONE, NONE, NONE);
        row("lost", trunkOf(x, 1), 502, 1, 0, 1, 3, NONE, NONE, NONE, NONE);
        x.price(0, 3, 0, 6);
        x.sell(0);
        row("sold", trunkOf(x, 0), 501, 7, 3, 8, 2, NONE, NONE, 48, NONE);
        for (int far : FAR) {
            due.none("told(" + far + ", 0)", x.told(far, 0));
            due.none("told(0, " + far + ")", x.told(0, far));
        }
        due.none("told(2, 0)", x.told(2, 0));
    }

    private static void raft() {
        due.part("promise 26");
        RaftRivers x = Rivers.two();
        int raft = Rivers.raft(x, 1, 4, 5, 1);
        Rivers.raft(x, 1, 3, 3);
        row("tied", raftOf(x, raft), 0, 1, 1, 3, 10, NONE, NONE, NONE);
        x.join(raft, 1);
        row("joined", raftOf(x, raft), 0, 1, 2, 5, 10, NONE, NONE, NONE);
        row("no more", raftOf(x, 1), 3, NONE, 0, 0, 0, NONE, NONE, NONE);
        x.crew(0);
        int crew = Rivers.ready(x, raft);
        row("ready", raftOf(x, raft), 1, 1, 2, 5, 10, crew, NONE, NONE);
        x.go(1);
        row("under way", raftOf(x, raft), 2, 0, 2, 5, 10, crew, 3, NONE);
        x.go(3);
        row("come", raftOf(x, raft), 0, 0, 2, 5, 10, NONE, NONE, NONE);
        x.unbind(raft);
        row("unbound", raftOf(x, raft), 3, NONE, 0, 0, 0, NONE, NONE, NONE);
        int other = Rivers.raft(x, 1, 1);
        Rivers.ready(x, other);
        x.go(1);
        x.breaks(other, true);
        row("broken", raftOf(x, other), 3, NONE, 0, 0, 0, NONE, NONE, NONE);
        for (int far : FAR) {
            due.none("raft(" + far + ", 0)", x.raft(far, 0));
            due.none("raft(0, " + far + ")", x.raft(0, far));
        }
        due.none("raft(3, 0)", x.raft(3, 0));
    }

    private static void crewed() {
        due.part("promise 27");
        RaftRivers x = Rivers.two();
        int raft = Rivers.raft(x, 1, 4);
        int crew = x.crew(1);
        row("at home", crewOf(x, crew), 0, 1, NONE, 0, NONE);
        x.ready(raft, crew);
        row("ready", crewOf(x, crew), 1, NONE, NONE, 0, NONE);
        x.go(1);
        row("under way", crewOf(x, crew), 1, NONE, NONE, 0, NONE);
        x.go(3);
        row("rests", crewOf(x, crew), 0, 0, NONE, 1, NONE);
        x.walk(crew);
        row("on foot", crewOf(x, crew), 2, NONE, 10, 0, NONE);
        x.go(7);
        row("home", crewOf(x, crew), 0, 1, NONE, 1, NONE);
        x.go(7);
        row("rested", crewOf(x, crew), 0, 1, NONE, 0, NONE);
        for (int far : FAR) {
            due.none("crewed(" + far + ", 0)", x.crewed(far, 0));
            due.none("crewed(0, " + far + ")", x.crewed(0, far));
        }
        due.none("crewed(1, 0)", x.crewed(1, 0));
    }

    private static void count() {
        due.part("promise 28");
        RaftRivers x = Rivers.two();
        x.station(1, Rivers.weir(1, 9, 0), 33, true);
        x.toll(0, 9);
        int raft = Rivers.raft(x, 1, 4, 4, 4);
        Rivers.raft(x, 2, 1);
        Rivers.ready(x, raft);
        x.go(5);
        x.unbind(raft);
        x.sell(0);
        x.sell(1);
        int[] want = {5, 3, 4, 2, 1, 27, 2, 0};
        for (int i = 0; i < want.length; i++) {
            due.is("count(" + i + ")", x.count(i), want[i]);
        }
        Rivers.ready(x, 1);
        x.go(1);
        x.breaks(1, true);
        due.is("count(7)", x.count(7), 1);
        due.is("count(5)", x.count(5), 36);
        due.is("count(100)", x.count(100), 0);
        due.is("count(101)", x.count(101), 50);
        due.is("count(102)", x.count(102), 28);
        for (int what : new int[] {8, 99, 103, 111, 112, 1000}) {
            due.none("count(" + what + ")", x.count(what));
        }
        for (int far : FAR) {
            due.none("count(" + far + ")", x.count(far));
        }
    }

    private static void constants() {
        due.part("constants");
        due.is("NONE", RaftRivers.NONE, -1);
    }
}
