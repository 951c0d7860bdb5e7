/** Small worlds that many tests begin with. */
final class Rivers {
    static final int NONE = RaftRivers.NONE;

    private Rivers() {
    }

    static int weir(int hours, int wide, int inflow) {
        return hours * 100000 + wide * 1000 + inflow;
    }

    static int log(int owner, int sort, int thickness) {
        return owner * 100 + sort * 10 + thickness;
    }

    /** Station 0, and station 1 above it: 3 hours, 20 wide, 50 in its pond, 2 more each hour. */
    static RaftRivers two() {
        RaftRivers x = new RaftRivers();
        x.station(0, 0, 0, false);
        x.station(0, weir(3, 20, 2), 50, false);
        return x;
    }

    /** Binds a raft of one row, of new trunks of owner 0, sort 0, with these thicknesses. */
    static int raft(RaftRivers x, int station, int... thick) {
        return raftOf(x, station, 0, thick);
    }

    static int raftOf(RaftRivers x, int station, int owner, int... thick) {
        for (int t : thick) {
            int n = x.count(2);
            x.trunk(1000 + n, log(owner, 0, t), station);
            x.put(n);
        }
        return x.bind();
    }

    /** A raft of so many rows, each of one trunk; it takes so many raft numbers. */
    static int longRaft(RaftRivers x, int station, int rows) {
        int first = raft(x, station, 1);
        for (int i = 1; i < rows; i++) {
            x.join(first, raft(x, station, 1));
        }
        return first;
    }

    /** Makes a raft ready with a new crew of its station. */
    static int ready(RaftRivers x, int raft) {
        int crew = x.crew(x.raft(raft, 1));
        x.ready(raft, crew);
        return crew;
    }
}
