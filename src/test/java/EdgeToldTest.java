/** Edges of promises 25 to 28. */
public final class EdgeToldTest {
    private static final int NONE = Edges.NONE;
    private static final Due due = new Due();
    private static final Edges edges = new Edges(due);

    public static void main(String[] args) {
        toldOfATrunk();
        toldOfNoTrunk();
        raftInEachState();
        raftOfNone();
        crewInEachState();
        crewOfNone();
        countsNothing();
        countsAll();
        countsPonds();
        due.end();
    }

    private interface Told {
        int of(RaftRivers x, int what);
    }

    /** What is told from 0 on; what comes behind it, and what is below 0, isn't. */
    private static void row(String name, Told told, int... want) {
        for (int what = 0; what < want.length; what++) {
            int asked = what;
            edges.same(name + ", " + what, want[what], x -> told.of(x, asked));
        }
        edges.noneSuch(name + ", what", want.length, (x, n) -> told.of(x, n));
        for (int far : new int[] {want.length + 1, 99, 100, 101}) {
            edges.none(name + ", " + far, x -> told.of(x, far));
        }
    }

    /** As states(); trunk 8 is sold for 35, 9 for nothing, 10 is in the next row. */
    private static void trunks(RaftRivers x) {
        Rivers.states(x);
        x.trunk(1, 735, 0);
        x.trunk(99999, 1, 0);
        x.trunk(2, 111, 1);
        x.put(10);
        x.price(0, 3, 0, 7);
        x.sell(8);
        x.sell(9);
        x.breaks(Rivers.UNDER_WAY, true);
    }

    private static void toldOfATrunk() {
        edges.in("promise 25: Of a TRUNK; NONE for others", EdgeToldTest::trunks);
        row("in a raft that is tied", (x, n) -> x.told(0, n), 1000, 0, 0, 1, 1, NONE, 0, NONE);
        row("in a raft that is ready", (x, n) -> x.told(4, n), 1004, 0, 0, 9, 1, NONE, 2, NONE);
        row("lost", (x, n) -> x.told(5, n), 1005, 0, 0, 4, 3, NONE, NONE, NONE);
        row("sold", (x, n) -> x.told(8, n), 1, 7, 3, 5, 2, NONE, NONE, 35);
        row("sold for nothing", (x, n) -> x.told(9, n), 99999, 0, 0, 1, 2, NONE, NONE, 0);
        row("in the next row", (x, n) -> x.told(10, n), 2, 1, 1, 1, 0, 1, NONE, NONE);
        edges.in("promise 25: Of a TRUNK in a RAFT that is under way", Rivers::states);
        row("under way", (x, n) -> x.told(5, n), 1005, 0, 0, 4, 1, NONE, 3, NONE);
        edges.in("promise 25: Of a TRUNK that LIES", x -> {
            Rivers.states(x);
            x.unbind(Rivers.LOW);
        });
        row("at the first station", (x, n) -> x.told(6, n), 1006, 0, 0, 5, 0, 0, NONE, NONE);
    }

    private static void toldOfNoTrunk() {
        edges.in("promise 25: NONE if there is none such", EdgeToldTest::trunks);
        for (int what = -1; what <= 8; what++) {
            int asked = what;
            edges.noneSuch("trunk, what " + what, 11, (x, n) -> x.told(n, asked));
        }
    }

    private static void raftInEachState() {
        edges.in("promise 26: Of a RAFT; NONE for others", Rivers::states);
        row("tied", (x, n) -> x.raft(Rivers.TWO_ROWS, n), 0, 1, 2, 2, 1, NONE, NONE);
        row("tied at the first station", (x, n) -> x.raft(Rivers.LOW, n), 0, 0, 1, 1, 5, NONE, NONE);
        row("ready", (x, n) -> x.raft(Rivers.READY, n), 1, 1, 1, 3, 27, Rivers.CREW_READY, NONE);
        row("under way", (x, n) -> x.raft(Rivers.UNDER_WAY, n), 2, 0, 1, 1, 4, Rivers.CREW_UNDER_WAY, 3);
        row("no more", (x, n) -> x.raft(Rivers.NO_MORE, n), 3, NONE, 0, 0, 0, NONE, NONE);
        edges.in("promise 26: Of a RAFT that is no more", x -> {
            Rivers.states(x);
            x.unbind(Rivers.TIED);
            x.breaks(Rivers.UNDER_WAY, false);
        });
        row("unbound", (x, n) -> x.raft(Rivers.TIED, n), 3, NONE, 0, 0, 0, NONE, NONE);
        row("broken", (x, n) -> x.raft(Rivers.UNDER_WAY, n), 3, NONE, 0, 0, 0, NONE, NONE);
        edges.in("promise 26: Of a RAFT that has come", x -> {
            Rivers.states(x);
            x.go(3);
        });
        row("come", (x, n) -> x.raft(Rivers.UNDER_WAY, n), 0, 0, 1, 1, 4, NONE, NONE);
    }

    private static void raftOfNone() {
        edges.in("promise 26: NONE if there is none such", Rivers::states);
        for (int what = -1; what <= 7; what++) {
            int asked = what;
            edges.noneSuch("raft, what " + what, 6, (x, n) -> x.raft(n, asked));
        }
    }

    private static void crewInEachState() {
        edges.in("promise 27: Of a CREW; NONE for others", Rivers::states);
        row("at its home", (x, n) -> x.crewed(Rivers.CREW_HERE, n), 0, 1, NONE, 0);
        row("at the first station", (x, n) -> x.crewed(Rivers.CREW_LOW, n), 0, 0, NONE, 0);
        row("on a raft that is ready", (x, n) -> x.crewed(Rivers.CREW_READY, n), 1, NONE, NONE, 0);
        row("on a raft that is under way", (x, n) -> x.crewed(Rivers.CREW_UNDER_WAY, n), 1, NONE, NONE, 0);
        edges.in("promise 27: Of a CREW that has come", x -> {
            Rivers.states(x);
            x.go(3);
        });
        row("it rests", (x, n) -> x.crewed(Rivers.CREW_UNDER_WAY, n), 0, 0, NONE, 1);
        edges.in("promise 27: Of a CREW on foot", x -> {
            Rivers.states(x);
            x.go(3);
            x.walk(Rivers.CREW_UNDER_WAY);
        });
        row("on foot", (x, n) -> x.crewed(Rivers.CREW_UNDER_WAY, n), 2, NONE, 10, 0);
        edges.in("promise 27: Of a CREW that has come home", x -> {
            Rivers.states(x);
            x.go(3);
            x.walk(Rivers.CREW_UNDER_WAY);
            x.go(7);
        });
        row("home", (x, n) -> x.crewed(Rivers.CREW_UNDER_WAY, n), 0, 1, NONE, 1);
    }

    private static void crewOfNone() {
        edges.in("promise 27: NONE if there is none such", Rivers::states);
        for (int what = -1; what <= 4; what++) {
            int asked = what;
            edges.noneSuch("crew, what " + what, 4, (x, n) -> x.crewed(n, asked));
        }
    }

    private static void countsNothing() {
        edges.in("promise 28: NONE for others", Rivers::states);
        for (int what : new int[] {Edges.LEAST, Edges.LEAST + 99, Edges.LEAST + 100, Edges.LEAST + 101, -101, -100,
            -99, -1, 8, 9, 50, 98, 99, 102, 103, 111, 112, 200, 1000, Edges.MOST - 1, Edges.MOST}) {
            edges.none("count(" + what + ")", x -> x.count(what));
        }
    }

    private static void countsAll() {
        edges.in("promise 28: all counts", x -> {
            x.toll(0, 9);
            trunks(x);
            x.go(4);
        });
        int[] want = {5, 2, 11, 6, 4, 9, 2, 1};
        for (int what = 0; what < want.length; what++) {
            int asked = what;
            edges.same("count(" + what + ")", want[what], x -> x.count(asked));
        }
        edges.in("promise 28: RAFTS ever", x -> {
            trunks(x);
            x.unbind(Rivers.TIED);
            x.part(Rivers.TWO_ROWS, 1);
        });
        edges.same("count(3)", 7, x -> x.count(3));
    }

    private static void countsPonds() {
        edges.in("promise 28: 100 and a STATION: what its POND has", x -> {
            x.station(0, 0, 500, true);
            for (int station = 1; station < 12; station++) {
                x.station(0, Rivers.weir(1, 1, 1), station, false);
            }
        });
        for (int station = 0; station < 12; station++) {
            int asked = station;
            edges.same("count(" + (100 + station) + ")", station, x -> x.count(100 + asked));
        }
        edges.none("count(99)", x -> x.count(99));
        edges.none("count(112)", x -> x.count(112));
        edges.in("promise 28: 100 and a STATION: the last one that came", x -> x.station(0, 0, 500, true));
        edges.same("count(100)", 0, x -> x.count(100));
        edges.none("count(101)", x -> x.count(101));
    }
}
