/** Small worlds that many tests begin with. */
final class Rivers {
    static final int NONE = RaftRivers.NONE;

    /** The rafts of states(), by numbers. */
    static final int TWO_ROWS = 0;
    static final int NO_MORE = 1;
    static final int READY = 2;
    static final int UNDER_WAY = 3;
    static final int LOW = 4;
    static final int TIED = 5;

    /** Its crews. */
    static final int CREW_READY = 0;
    static final int CREW_UNDER_WAY = 1;
    static final int CREW_HERE = 2;
    static final int CREW_LOW = 3;

    private Rivers() {
    }

    static int weir(int hours, int wide, int inflow) {
        return hours * 100000 + wide * 1000 + inflow;
    }

    static int log(int owner, int sort, int thickness) {
        return owner * 100 + sort * 10 + thickness;
    }

    /** Station 0, and station 1 above it. */
    static void river(RaftRivers x, int weir, int pond) {
        x.station(0, 0, 0, false);
        x.station(0, weir, pond, false);
    }

    /** Station 0, and station 1 above it: 3 hours, 20 wide, 50 in its pond, 2 more each hour. */
    static RaftRivers two() {
        RaftRivers x = new RaftRivers();
        river(x, weir(3, 20, 2), 50);
        return x;
    }

    /** Stations one above the other; those with even numbers are cities. */
    static void chain(RaftRivers x, int stations, int weir, int pond) {
        for (int i = 0; i < stations; i++) {
            x.station(i - 1, weir, pond, i % 2 == 0);
        }
    }

    /** Binds a raft of one row, of new trunks of owner 0, sort 0, with these thicknesses. */
    static int raft(RaftRivers x, int station, int... thick) {
        return raftOf(x, station, 0, thick);
    }

    static int raftOf(RaftRivers x, int station, int owner, int... thick) {
        for (int t : thick) {
            int n = x.count(2);
            x.trunk(1000 + n, log(owner, 0, t), station);
            x.put(n);
        }
        return x.bind();
    }

    /** A raft of so many rows, each of one trunk; it takes so many raft numbers. */
    static int longRaft(RaftRivers x, int station, int rows) {
        int first = raft(x, station, 1);
        for (int i = 1; i < rows; i++) {
            x.join(first, raft(x, station, 1));
        }
        return first;
    }

    /** Makes a raft ready with a new crew of its station. */
    static int ready(RaftRivers x, int raft) {
        int crew = x.crew(x.raft(raft, 1));
        x.ready(raft, crew);
        return crew;
    }

    static int readyRaft(RaftRivers x, int station, int... thick) {
        int raft = raft(x, station, thick);
        ready(x, raft);
        return raft;
    }

    static int readyLong(RaftRivers x, int station, int rows) {
        int raft = longRaft(x, station, rows);
        ready(x, raft);
        return raft;
    }

    static void goTo(RaftRivers x, int hour) {
        for (int i = 0; i <= 40 && x.count(0) < hour; i++) {
            x.go(Math.min(500, hour - x.count(0)));
        }
    }

    /**
     * In hour 1, of rafts: two rows tied at station 1 (trunks 0 and 1), one that is no more, one ready that is
     * too wide (2 to 4), one under way to station 0 (5), one tied there (6), and one tied at station 1 (7).
     */
    static void states(RaftRivers x) {
        river(x, weir(3, 20, 2), 50);
        longRaft(x, 1, 2);
        readyRaft(x, 1, 9, 9, 9);
        readyRaft(x, 1, 4);
        raft(x, 0, 5);
        raft(x, 1, 6);
        x.crew(1);
        x.crew(0);
        x.go(1);
    }
}
